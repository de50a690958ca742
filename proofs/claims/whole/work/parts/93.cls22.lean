section Cls22
/-- a list of copies that q is not in -/
def LsX (Γ : Gm) (ρ K : Nat → Nat) (I : Nat → Nat → Int32) (R : Nat → Nat → Option Nat) (t l : Nat) (cs : List Cy) (q : Nat) : Prop := ∃ ps : List (Nat × Cy), CLs K I R ρ t l (ps.map Prod.fst) ∧ ps.map Prod.snd = cs ∧ (∀ z ∈ ps, cp1 Γ I R z.1 z.2) ∧ q ∉ ps.map Prod.fst
theorem RepN.newC {Γ : Gm} {ρ : Nat → Nat} {K N : Nat → Nat} {I : Nat → Nat → Int32} {R : Nat → Nat → Option Nat} {L : Nat → Nat → Int64} {E : Nat → Nat → Int32} {El : Nat → Nat → Int64} {Er : Nat → Nat → Option Nat} {s : Sa} (hR : RepN Γ ρ K N I R L E El Er s) {q : Nat} (hq : K q = 0) (t : Nat) (x y : Int32) (z : Option Nat) : RepN Γ (va_up ρ q t) (va_up K q (2 + 1)) N (u2 (u2 I 15 q x) 16 q y) (u2r R 14 q z) L E El Er s := by
  refine hR.grow ⟨fun p hp => ⟨by simp [va_up, dne2 hq hp], rfl, by simp [va_up, dne2 hq hp]⟩, fun g p _ hp => by rw [u2_q _ _ (dne2 hq hp), u2_q _ _ (dne2 hq hp)], fun g p _ hp => u2r_q _ _ (dne2 hq hp), fun _ _ _ => rfl, fun _ _ _ => rfl, fun _ _ _ => rfl, fun _ _ _ => rfl⟩ ?_
  exact DF.pI (DF.pI (DF.pR (DF.pK hR.df (by decide)) (by simp [va_up])) (by simp [va_up])) (by simp [va_up])
theorem Kp_newC {K N : Nat → Nat} {I : Nat → Nat → Int32} {R : Nat → Nat → Option Nat} {L : Nat → Nat → Int64} {E : Nat → Nat → Int32} {El : Nat → Nat → Int64} {Er : Nat → Nat → Option Nat} {q : Nat} (hq : K q = 0) (x y : Int32) (z : Option Nat) : Kp K I R (va_up K q (2 + 1)) (u2 (u2 I 15 q x) 16 q y) (u2r R 14 q z) := fun p hp =>
  ⟨by simp [va_up, dne2 hq hp], u2r_q _ _ (dne2 hq hp), u2r_q _ _ (dne2 hq hp), by rw [u2_q _ _ (dne2 hq hp), u2_q _ _ (dne2 hq hp)], by rw [u2_q _ _ (dne2 hq hp), u2_q _ _ (dne2 hq hp)], by rw [u2_q _ _ (dne2 hq hp), u2_q _ _ (dne2 hq hp)], by rw [u2_q _ _ (dne2 hq hp), u2_q _ _ (dne2 hq hp)]⟩
theorem LsC.newC {Γ : Gm} {ρ K : Nat → Nat} {I : Nat → Nat → Int32} {R : Nat → Nat → Option Nat} {t l : Nat} {cs : List Cy} (h : LsC Γ ρ K I R t l cs) {q : Nat} (hq : K q = 0) (t2 : Nat) (x y : Int32) (z : Option Nat) : LsX Γ (va_up ρ q t2) (va_up K q (2 + 1)) (u2 (u2 I 15 q x) 16 q y) (u2r R 14 q z) t l cs q := by
  obtain ⟨ps, hc, he, hp⟩ := h
  have hm := hc.2.2.2.2.2.1
  have hl : K l ≠ 0 := by have := hc.1; omega
  have kk : ∀ a ∈ ps.map Prod.fst, K a ≠ 0 := fun a ha => by have := (hm a ha).1; omega
  refine ⟨ps, hc.keep (fun p c h9 => by simp [va_up, dne2 hq (show K p ≠ 0 by omega), h9]) (by rw [u2_q _ _ (dne2 hq hl), u2_q _ _ (dne2 hq hl)]) (u2r_q _ _ (dne2 hq hl)) (u2r_q _ _ (dne2 hq hl)) (fun a ha => ⟨u2r_q _ _ (dne2 hq (kk a ha)), by simp [va_up, dne2 hq (kk a ha)]⟩), he, fun w hw => ?_, fun hin => kk q hin hq⟩
  have k1 := kk w.1 (List.mem_map_of_mem hw)
  obtain ⟨a1, a2, a3⟩ := hp w hw
  exact ⟨by rw [u2r_q _ _ (dne2 hq k1)]; exact a1, by rw [u2_q _ _ (dne2 hq k1), u2_q _ _ (dne2 hq k1)]; exact a2, by rw [u2_q _ _ (dne2 hq k1), u2_q _ _ (dne2 hq k1)]; exact a3⟩
theorem LsX.add {G : Gt} {Γ : Gm} {ρ : Nat → Nat} {K N : Nat → Nat} {I : Nat → Nat → Int32} {R : Nat → Nat → Option Nat} {L : Nat → Nat → Int64} {E : Nat → Nat → Int32} {El : Nat → Nat → Int64} {Er : Nat → Nat → Option Nat} {t l q : Nat} {cs : List Cy} {c : Cy} (h : LsX Γ ρ K I R t l cs q) (kq : K q = 2 + 1) (r17 : R 17 q = none) (hrho : ρ q = t) (hc1 : cp1 Γ I R q c) : ∃ xs, (∀ b ∈ xs, K b = 2 + 1 ∧ ρ b = t) ∧ CallE G m_Lst_add 0 0 [.ref l, .ref q] (hN K N I R L E El Er) 0 0 none (fun h' => ∃ I' R', h' = hN K N I' R' L E El Er ∧ lI l I I' ∧ lR l xs R R' ∧ LsC Γ ρ K I' R' t l (cs ++ [c])) := by
  obtain ⟨ps, hc, he, hp, hnq⟩ := h
  refine ⟨ps.map Prod.fst, hc.2.2.2.2.2.1, CallE.up (hc.add kq r17 hnq hrho) (Nat.le_refl _) (Nat.le_refl _) (fun h' hq => ?_)⟩
  obtain ⟨I', R', e, h1, h2, h3⟩ := hq
  refine ⟨I', R', e, h1, h2, ps ++ [(q, c)], by rw [List.map_append]; exact h3, by rw [List.map_append, he]; rfl, fun z hz => ?_⟩
  rcases List.mem_append.mp hz with hz | hz
  · exact (hp z hz).o h1 h2
  · rw [List.mem_singleton.mp hz]
    exact hc1.o h1 h2
theorem quF_app {s : Sa} {x : Cy} (c p : Nat) : quF (wCp s (sCp s ++ [x])) c p = quF s c p ++ (if x.1 == c && prioOf s x.2.1 == p then [x] else []) := flt_app _ _ _
theorem hlF_app {s : Sa} {x : Cy} (y : Nat) : hlF (wCp s (sCp s ++ [x])) y = hlF s y ++ (if x.1 == 16 + y then [x] else []) := flt_app _ _ _
/-- a copy is put into a queue -/
theorem RepN.addQ {Γ : Gm} {ρ : Nat → Nat} {K N : Nat → Nat} {I : Nat → Nat → Int32} {R : Nat → Nat → Option Nat} {L : Nat → Nat → Int64} {E : Nat → Nat → Int32} {El : Nat → Nat → Int64} {Er : Nat → Nat → Option Nat} {s : Sa} (h : RepN Γ ρ K N I R L E El Er s) {c m set : Nat} {xs : List Nat} {I' : Nat → Nat → Int32} {R' : Nat → Nat → Option Nat} (hc : c < 16) (hs : (sLn s (c / 2)).isSome = true) (hp : prioOf s m < 5) (hm : ∀ a ∈ xs, K a = 2 + 1 ∧ ρ a = 900000 + (5 * c + prioOf s m)) (h1 : lI (Γ 9 (5 * c + prioOf s m)) I I') (h2 : lR (Γ 9 (5 * c + prioOf s m)) xs R R') (hn : LsC Γ ρ K I' R' (900000 + (5 * c + prioOf s m)) (Γ 9 (5 * c + prioOf s m)) (quF s c (prioOf s m) ++ [(c, m, set, 0)])) : RepN Γ ρ K N I' R' L E El Er (wCp s (sCp s ++ [(c, m, set, 0)])) := by
  refine h.qu1 hc hs hp hm h1 h2 (by rw [quF_app]; simpa using hn) (fun x hx => ?_) (fun c2 p2 _ _ hne => ?_)
  · rw [hlF_app, show (((c, m, set, 0) : Cy).1 == 16 + x) = false from beq_eq_false_iff_ne.mpr (by show c ≠ _; omega)]
    simp
  · rw [quF_app]
    have : ((c == c2) && (prioOf s m == p2)) = false := by
      cases hq : ((c == c2) && (prioOf s m == p2)) with
      | false => rfl
      | true =>
        rw [Bool.and_eq_true, beq_iff_eq, beq_iff_eq] at hq
        omega
    show _ ++ (if (c == c2) && (prioOf s m == p2) then _ else _) = _
    rw [this]
    simp
/-- a copy is put to the held ones -/
theorem RepN.addH {Γ : Gm} {ρ : Nat → Nat} {K N : Nat → Nat} {I : Nat → Nat → Int32} {R : Nat → Nat → Option Nat} {L : Nat → Nat → Int64} {E : Nat → Nat → Int32} {El : Nat → Nat → Int64} {Er : Nat → Nat → Option Nat} {s : Sa} (h : RepN Γ ρ K N I R L E El Er s) {x m set by1 : Nat} {xs : List Nat} {I' : Nat → Nat → Int32} {R' : Nat → Nat → Option Nat} (hx : x < 6) (hm : ∀ a ∈ xs, K a = 2 + 1 ∧ ρ a = 800000 + x) (h1 : lI (Γ 4 x) I I') (h2 : lR (Γ 4 x) xs R R') (hn : LsC Γ ρ K I' R' (800000 + x) (Γ 4 x) (hlF s x ++ [(16 + x, m, set, by1)])) : RepN Γ ρ K N I' R' L E El Er (wCp s (sCp s ++ [(16 + x, m, set, by1)])) := by
  refine h.hl1 hx hm h1 h2 (by rw [hlF_app]; simpa using hn) (fun x2 hx2 hne => ?_) (fun c2 p2 hc2 _ => ?_)
  · rw [hlF_app, show (((16 + x, m, set, by1) : Cy).1 == 16 + x2) = false from beq_eq_false_iff_ne.mpr (by show 16 + x ≠ _; omega)]
    simp
  · rw [quF_app]
    show _ ++ (if (16 + x == c2) && _ then _ else _) = _
    rw [show (16 + x == c2) = false from beq_eq_false_iff_ne.mpr (by omega)]
    simp
theorem mg_at {Γ : Gm} {ρ : Nat → Nat} {K N : Nat → Nat} {I : Nat → Nat → Int32} {R : Nat → Nat → Option Nat} {L : Nat → Nat → Int64} {E : Nat → Nat → Int32} {El : Nat → Nat → Int64} {Er : Nat → Nat → Option Nat} {s : Sa} (h : RepN Γ ρ K N I R L E El Er s) {j : Nat} {r : Nat × List (List Nat) × Nat × Nat} (hm : (sMs s)[j]? = some r) : prioOf s (j + 1) = r.1 := by
  unfold prioOf
  rw [show j + 1 - 1 = j by omega, List.getD_eq_getElem?_getD, hm]
  rfl
set_option maxRecDepth 20000 in
theorem c_Chn_queue {G : Gt} {K N : Nat → Nat} {I : Nat → Nat → Int32} {R : Nat → Nat → Option Nat} {L : Nat → Nat → Int64} {E : Nat → Nat → Int32} {El : Nat → Nat → Int64} {Er : Nat → Nat → Option Nat} {Γ : Gm} {ρ : Nat → Nat} {s : Sa} (hR : RepN Γ ρ K N I R L E El Er s) {c : Nat} (hc : c < 16) (hs : (sLn s (c / 2)).isSome = true) {j : Nat} {m : Nat × List (List Nat) × Nat × Nat} (hm : (sMs s)[j]? = some m) {q set : Nat} (hp5 : prioOf s (j + 1) < 5) (kq : K q = 2 + 1) (r14 : R 14 q = some (Γ 14 (j + 1))) (i15 : I 15 q = nI set) (i16 : I 16 q = -1) (r17 : R 17 q = none) (hrho : ρ q = 900000 + (5 * c + prioOf s (j + 1))) (hX : LsX Γ ρ K I R (900000 + (5 * c + prioOf s (j + 1))) (Γ 9 (5 * c + prioOf s (j + 1))) (quF s c (prioOf s (j + 1))) q) : CallE G m_Chn_queue 1 13 [.ref (Γ 7 c), .ref q] (hN K N I R L E El Er) 0 0 none (fun h' => ∃ I' R', h' = hN K N I' R' L E El Er ∧ Kp K I R K I' R' ∧ RepN Γ ρ K N I' R' L E El Er (wCp s (sCp s ++ [(c, j + 1, set, 0)]))) := by
  obtain ⟨xs, hxs, hadd⟩ := hX.add (G := G) (N := N) (L := L) (E := E) (El := El) (Er := Er) (c := (c, j + 1, set, 0)) kq r17 hrho ⟨r14, i15, i16⟩
  refine CallS.of (Nat.le_of_ble_eq_true rfl) ?_
  refine wp_aload_n d_Chn_queue_0 rfl 1 rfl ?_
  refine wn_get_Cpy d_Chn_queue_1 (kq) 0 (by decide) wF_Chn_40 rfl ?_
  refine wp_toVR (o := some (Γ 14 (j + 1))) (z := .ref (Γ 14 (j + 1))) (r14) rfl ?_
  refine wn_get_Msg d_Chn_queue_4 ((hR.mg j _ hm).2.1) 2 (by decide) wF_Chn_46 rfl ?_
  refine wp_toI (z := (nI (prioOf s (j + 1)))) (((hR.mg j _ hm).2.2.2.2.2.1).trans (by rw [mg_at hR hm])) ?_
  refine wp_istore_n (lv' := [(2, .int (nI (prioOf s (j + 1)))), (0, .ref (Γ 7 c)), (1, .ref q)]) d_Chn_queue_7 rfl (by decide) rfl ?_
  refine wp_iload_n d_Chn_queue_8 rfl 0 rfl ?_
  refine wp_if_ltN (tgt := 27) d_Chn_queue_9 (by decide) (by omega) ?_
  refine wp_iload_n d_Chn_queue_12 rfl 0 rfl ?_
  refine wp_iconst (v := nI 5) d_Chn_queue_13 (by decide) ?_
  refine wp_geN (tgt := 27) d_Chn_queue_14 (by decide) (by omega) (by omega) (fun c14 => ?_) (fun c14 => ?_)
  · omega
  · refine wp_aload_n d_Chn_queue_17 rfl 1 rfl ?_
    refine wn_get_Chn d_Chn_queue_18 ((hR.ci c hc hs).1) 0 (by decide) wF_Chn_11 rfl ?_
    refine wp_toVR (o := some (Γ 8 c)) (z := .ref (Γ 8 c)) ((hR.ci c hc hs).2.2.1) rfl ?_
    refine wp_iload_n d_Chn_queue_21 rfl 0 rfl ?_
    refine wn_ald (x := some (Γ 9 (5 * c + prioOf s (j + 1)))) d_Chn_queue_22 ((hR.ci c hc hs).2.2.2.2.2.1) rfl (by decide) (by rw [(hR.ci c hc hs).2.2.2.2.2.2.1]; omega) (by rw [(hR.ci c hc hs).2.2.2.2.2.2.1]; omega) ((hR.qu c hc hs (prioOf s (j + 1)) hp5).1) ?_
    refine wp_aload_n d_Chn_queue_23 rfl 2 rfl ?_
    refine wp_callEU (k' := 0) (n' := 0) (r := 0) d_Chn_queue_24 (link_V (as := [.ref q]) (rest := []) (r := (R_Lst, T_Lst, 3)) d_Chn_queue_24 cal_Lst_add wM_Chn_51 rfl (hN_o ((hR.qu c hc hs (prioOf s (j + 1)) hp5).2.2.kl) (by decide)) rfl) cal_Lst_add (hadd) (Nat.le_of_ble_eq_true rfl) ⟨Nat.le_of_ble_eq_true rfl, Nat.le_of_ble_eq_true rfl⟩ (fun h' q24 => ?_)
    obtain ⟨I2, R2, rfl, l1, l2, l3⟩ := q24
    exact wp_vret d_Chn_queue_27 rfl ⟨rfl, I2, R2, rfl, Kp_l l1 l2, hR.addQ hc hs hp5 hxs l1 l2 l3⟩
def rcN (sh : Nat → Nat) : Nat → Nat → Nat
  | 0, _ => 0
  | f + 1, l => (if sh l = 0 then 0 else 1) + rcN sh f (l + 1)
set_option maxRecDepth 20000 in
theorem c_Net_queueParts {G : Gt} {K N : Nat → Nat} {I : Nat → Nat → Int32} {R : Nat → Nat → Option Nat} {L : Nat → Nat → Int64} {E : Nat → Nat → Int32} {El : Nat → Nat → Int64} {Er : Nat → Nat → Option Nat} {Γ : Gm} {ρ : Nat → Nat} {s : Sa} (hR : RepN Γ ρ K N I R L E El Er s) {j : Nat} {m : Nat × List (List Nat) × Nat × Nat} (hm : (sMs s)[j]? = some m) {x : Nat} {sh : Nat → Nat} (hx : x < 6) (hLb : ∀ l a b v, sLn s l = some (a, b, v) → a < 6 ∧ b < 6) (hsh : ∀ l, sh l < 2 ^ 7) (hsv : ∀ l, l < 8 → sh l ≠ 0 → serves s l = true) (hE : ∀ l, l < 8 → E (Γ 0 7) l = nI (sh l)) (hp0 : prioOf s (j + 1) < 5) : CallE G m_Net_queueParts 2 29 [.ref (Γ 0 0), .int (nI x), .ref (Γ 14 (j + 1))] (hN K N I R L E El Er) (rcN sh 8 0) (4 * rcN sh 8 0) none (fun h' => ∃ ρ' K' I' R', h' = hN K' N I' R' L E El Er ∧ Kp K I R K' I' R' ∧ RepN Γ ρ' K' N I' R' L E El Er (wCp s (sCp s ++ shareCopies s x (j + 1) sh 8))) := by
  refine CallS.of (Nat.le_of_ble_eq_true rfl) ?_
  have L2 : ∀ (f l : Nat) (s' : Sa) (ρ' K' : Nat → Nat) (I' : Nat → Nat → Int32) (R' : Nat → Nat → Option Nat), f = 8 - l → l ≤ 8 → RepN Γ ρ' K' N I' R' L E El Er s' → Kp K I R K' I' R' → s' = wCp s (sCp s ++ shareCopies s x (j + 1) sh l) → WP G m_Net_queueParts (2, 29, (rcN sh 8 0), (4 * rcN sh 8 0), (hN K N I R L E El Er), fun r9 h9 => r9 = .inl none ∧ (fun h' => ∃ ρ' K' I' R', h' = hN K' N I' R' L E El Er ∧ Kp K I R K' I' R' ∧ RepN Γ ρ' K' N I' R' L E El Er (wCp s (sCp s ++ shareCopies s x (j + 1) sh 8))) h9) 2 [(3, .int (nI l)), (0, .ref (Γ 0 0)), (1, .int (nI x)), (2, .ref (Γ 14 (j + 1)))] [] (hN K' N I' R' L E El Er) (rcN sh f l) (4 * rcN sh f l) := by
    intro f
    induction f with
    | zero =>
      intro l s' ρ' K' I' R' hf hl8 hR' hkp he
      obtain rfl : l = 8 := by omega
      refine wp_iload_n d_Net_queueParts_2 rfl 0 rfl ?_
      refine wp_bipush (v := nI 8) d_Net_queueParts_3 (by decide) ?_
      refine wp_geN (tgt := 59) d_Net_queueParts_5 (by decide) (by omega) (by omega) (fun _ => ?_) (fun c => absurd c (by omega))
      exact wp_vret d_Net_queueParts_59 rfl ⟨rfl, ρ', K', I', R', rfl, hkp, by rw [he] at hR'; exact hR'⟩
    | succ f ih =>
      intro l s' ρ' K' I' R' hf hl8 hR' hkp he
      refine wp_iload_n d_Net_queueParts_2 rfl 0 rfl ?_
      refine wp_bipush (v := nI 8) d_Net_queueParts_3 (by decide) ?_
      refine wp_geN (tgt := 59) d_Net_queueParts_5 (by decide) (by omega) (by omega) (fun c5 => ?_) (fun c5 => ?_)
      · exfalso; omega
      · by_cases h0 : sh l = 0
        · refine wp_bud (k' := rcN sh f (l + 1)) (n' := 4 * rcN sh f (l + 1)) (by simp [rcN, h0]) (by simp [rcN, h0]) ?_
          refine wp_aload_n d_Net_queueParts_8 rfl 1 rfl ?_
          refine wn_get_Net d_Net_queueParts_9 (hR'.nt.1) 4 (by decide) wF_Net_34 rfl ?_
          refine wp_toVR (o := some (Γ 0 7)) (z := .ref (Γ 0 7)) (hR'.nt.2.2.2.2.2.1) rfl ?_
          refine wp_iload_n d_Net_queueParts_12 rfl 0 rfl ?_
          refine wn_ild (x := (nI 0)) d_Net_queueParts_13 (hR'.nt.2.2.2.2.2.2.2.2.2.2.2.2.2.2.2.1) (by rw [hR'.nt.2.2.2.2.2.2.2.2.2.2.2.2.2.2.2.2]; omega) (by rw [hR'.nt.2.2.2.2.2.2.2.2.2.2.2.2.2.2.2.2]; omega) (by rw [hE l (by omega), h0]) ?_
          refine wp_if_eqN (tgt := 53) d_Net_queueParts_14 (by decide) (by omega) (fun _ => ?_) (fun c => absurd c (by decide))
          refine wp_iinc (lv' := [(3, .int (nI (l + 1))), (0, .ref (Γ 0 0)), (1, .int (nI x)), (2, .ref (Γ 14 (j + 1)))]) d_Net_queueParts_53 0 rfl (nI_1 _) (by decide) rfl ?_
          refine wp_goto (tgt := 2) d_Net_queueParts_56 (by decide) ?_
          first | exact absurd c14 h0 | exact ih (l + 1) s' ρ' K' I' R' (by omega) (by omega) hR' hkp (by rw [he, share_s, if_pos h0, List.append_nil])
        · refine wp_bud (k' := rcN sh f (l + 1) + 1) (n' := 4 * rcN sh f (l + 1) + 4) (by simp [rcN, h0]; omega) (by simp [rcN, h0]; omega) ?_
          obtain ⟨a, b, hv⟩ := serves_some (hsv l (by omega) h0)
          have hv' : sLn s' l = some (a, b, true) := by rw [he]; exact hv
          have hab := hLb l a b true hv
          have hl : l < 8 := by omega
          have hls := hsh l
          refine wp_aload_n d_Net_queueParts_8 rfl 1 rfl ?_
          refine wn_get_Net d_Net_queueParts_9 (hR'.nt.1) 4 (by decide) wF_Net_34 rfl ?_
          refine wp_toVR (o := some (Γ 0 7)) (z := .ref (Γ 0 7)) (hR'.nt.2.2.2.2.2.1) rfl ?_
          refine wp_iload_n d_Net_queueParts_12 rfl 0 rfl ?_
          refine wn_ild (x := (nI (sh l))) d_Net_queueParts_13 (hR'.nt.2.2.2.2.2.2.2.2.2.2.2.2.2.2.2.1) (by rw [hR'.nt.2.2.2.2.2.2.2.2.2.2.2.2.2.2.2.2]; omega) (by rw [hR'.nt.2.2.2.2.2.2.2.2.2.2.2.2.2.2.2.2]; omega) (hE l (by omega)) ?_
          refine wp_if_eqN (tgt := 53) d_Net_queueParts_14 (by decide) (by omega) (fun c14 => ?_) (fun c14 => ?_)
          · refine wp_iinc (lv' := [(3, .int (nI (l + 1))), (0, .ref (Γ 0 0)), (1, .int (nI x)), (2, .ref (Γ 14 (j + 1)))]) d_Net_queueParts_53 0 rfl (nI_1 _) (by decide) rfl ?_
            refine wp_goto (tgt := 2) d_Net_queueParts_56 (by decide) ?_
            first | exact absurd c14 h0 | exact ih (l + 1) s' ρ' K' I' R' (by omega) (by omega) hR' hkp (by rw [he, share_s, if_pos h0, List.append_nil])
          · refine wp_aload_n d_Net_queueParts_17 rfl 1 rfl ?_
            refine wp_iload_n d_Net_queueParts_18 rfl 0 rfl ?_
            refine wp_callV (r := 0) d_Net_queueParts_19 (link_V (as := [.int (nI l)]) (rest := []) (r := (R_Net, T_Net, 7)) d_Net_queueParts_19 cal_Net_isLine wM_Net_272 rfl (hN_o (hR'.nt.1) (by decide)) rfl) cal_Net_isLine (c_Net_isLine1 hR' hl hv') (Nat.le_of_ble_eq_true rfl) ⟨Nat.le_of_ble_eq_true rfl, Nat.le_of_ble_eq_true rfl⟩ ?_
            refine wp_if_eqB (tgt := 53) d_Net_queueParts_22 (by decide) (fun c => absurd c (by decide)) (fun _ => ?_)
            refine wp_aload_n d_Net_queueParts_25 rfl 1 rfl ?_
            refine wn_get_Net d_Net_queueParts_26 (hR'.nt.1) 2 (by decide) wF_Net_24 rfl ?_
            refine wp_toVR (o := some (Γ 0 5)) (z := .ref (Γ 0 5)) (hR'.nt.2.2.2.1) rfl ?_
            refine wp_iload_n d_Net_queueParts_29 rfl 0 rfl ?_
            refine wn_ald (x := some (Γ 6 l)) d_Net_queueParts_30 (hR'.nt.2.2.2.2.2.2.2.2.2.2.1) rfl (by decide) (by rw [hR'.nt.2.2.2.2.2.2.2.2.2.2.2.1]; omega) (by rw [hR'.nt.2.2.2.2.2.2.2.2.2.2.2.1]; omega) (((hR'.li l hl).2 _ _ _ hv').1) ?_
            refine wp_iload_n d_Net_queueParts_31 rfl 2 rfl ?_
            refine wp_callV (r := 0) d_Net_queueParts_32 (link_V (as := [.int (nI x)]) (rest := []) (r := (R_Lin, T_Lin, 5)) d_Net_queueParts_32 cal_Lin_channelFrom wM_Net_339 rfl (hN_o (((hR'.li l hl).2 _ _ _ hv').2.1) (by decide)) rfl) cal_Lin_channelFrom (c_Lin_channelFrom hR' hl hv' hx hab.1) (Nat.le_of_ble_eq_true rfl) ⟨Nat.le_of_ble_eq_true rfl, Nat.le_of_ble_eq_true rfl⟩ ?_
            refine wn_new_Cpy d_Net_queueParts_35 wC_Net_293 (hR'.df) (fun q1 hq1 => ?_)
            refine wp_dup d_Net_queueParts_38 rfl ?_
            refine wp_aload_n d_Net_queueParts_39 rfl 3 rfl ?_
            refine wp_aload_n d_Net_queueParts_40 rfl 1 rfl ?_
            refine wn_get_Net d_Net_queueParts_41 (kup hq1 (hR'.nt.1)) 4 (by decide) wF_Net_34 rfl ?_
            refine wp_toVR (o := some (Γ 0 7)) (z := .ref (Γ 0 7)) (hR'.nt.2.2.2.2.2.1) rfl ?_
            refine wp_iload_n d_Net_queueParts_44 rfl 0 rfl ?_
            refine wn_ild (x := (nI (sh l))) d_Net_queueParts_45 (kupA hq1 (hR'.nt.2.2.2.2.2.2.2.2.2.2.2.2.2.2.2.1)) (by rw [hR'.nt.2.2.2.2.2.2.2.2.2.2.2.2.2.2.2.2]; omega) (by rw [hR'.nt.2.2.2.2.2.2.2.2.2.2.2.2.2.2.2.2]; omega) (hE l (by omega)) ?_
            refine wp_iconst (v := -1) d_Net_queueParts_46 (by decide) ?_
            refine wp_callU (r := 2) d_Net_queueParts_47 (link_I (as := [.ref (Γ 14 (j + 1)), .int (nI (sh l)), .int (-1)]) (rest := [.ref q1, .ref (Γ 7 (2 * l + if a = x then 0 else 1))]) d_Net_queueParts_47 cal_Cpy_init rfl wM_Net_333 rfl) cal_Cpy_init (c_Cpy_init (kat _ _ _)) (Nat.le_of_ble_eq_true rfl) ⟨Nat.le_of_ble_eq_true rfl, Nat.le_of_ble_eq_true rfl⟩ ?_
            have hc16 : (2 * l + if a = x then 0 else 1) < 16 := by split <;> omega
            have hcs : (sLn s' ((2 * l + if a = x then 0 else 1) / 2)).isSome = true := by rw [show (2 * l + if a = x then 0 else 1) / 2 = l by split <;> omega, hv']; rfl
            have hp5 : prioOf s' (j + 1) < 5 := by rw [he]; exact hp0
            have hRn := hR'.newC hq1 (900000 + (5 * (2 * l + if a = x then 0 else 1) + prioOf s' (j + 1))) (nI (sh l)) (-1) (some (Γ 14 (j + 1)))
            have hXn := ((hR'.qu (2 * l + if a = x then 0 else 1) hc16 hcs _ hp5).2.2).newC hq1 (900000 + (5 * (2 * l + if a = x then 0 else 1) + prioOf s' (j + 1))) (nI (sh l)) (-1) (some (Γ 14 (j + 1)))
            have r17 : u2r R' 14 q1 (some (Γ 14 (j + 1))) 17 q1 = none := by rw [u2r_ne _ _ (by decide)]; exact (hR'.df q1 hq1).2.1 17
            refine wp_callEU (k' := 0) (n' := 0) (r := 0) d_Net_queueParts_50 (link_V (as := [.ref q1]) (rest := []) (r := (R_Chn, T_Chn, 7)) d_Net_queueParts_50 cal_Chn_queue wM_Net_342 rfl (hN_o (kup hq1 ((hR'.ci (2 * l + if a = x then 0 else 1) hc16 hcs).1)) (by decide)) rfl) cal_Chn_queue (c_Chn_queue hRn hc16 hcs (j := j) (set := sh l) (by rw [he]; exact hm) hp5 (kat _ _ _) (by rw [u2r_at, if_pos rfl]) (by rw [u2_ne _ _ (by decide), u2_at, if_pos rfl]) (by rw [u2_at, if_pos rfl]) r17 (by simp [va_up]) hXn) (Nat.le_of_ble_eq_true rfl) ⟨Nat.le_of_ble_eq_true rfl, Nat.le_of_ble_eq_true rfl⟩ (fun h' q50 => ?_)
            obtain ⟨I2, R2, rfl, kp2, hR2⟩ := q50
            refine wp_iinc (lv' := [(3, .int (nI (l + 1))), (0, .ref (Γ 0 0)), (1, .int (nI x)), (2, .ref (Γ 14 (j + 1)))]) d_Net_queueParts_53 0 rfl (nI_1 _) (by decide) rfl ?_
            refine wp_goto (tgt := 2) d_Net_queueParts_56 (by decide) ?_
            exact ih (l + 1) _ _ _ I2 R2 (by omega) (by omega) hR2 ((hkp.tr (Kp_newC (N := N) (L := L) (E := E) (El := El) (Er := Er) hq1 _ _ _)).tr kp2) (by rw [he, share_s, if_neg h0, ← List.append_assoc, side_of hv])
  refine wp_iconst (v := nI 0) d_Net_queueParts_0 (by decide) ?_
  refine wp_istore_n (lv' := [(3, .int (nI 0)), (0, .ref (Γ 0 0)), (1, .int (nI x)), (2, .ref (Γ 14 (j + 1)))]) d_Net_queueParts_1 rfl (by decide) rfl ?_
  exact L2 8 0 s ρ K I R (by omega) (by omega) hR Kp_0 (by simp [shareCopies])
end Cls22
