section Mod24
set_option maxRecDepth 20000 in
theorem l_Mod_comes0 {G : Gt} {B : Bt} {o : Nat} {A : Nat → Nat} {F : Nat → Int32} {M : Nat → Nat → Int32} {Ml : Nat → Nat → Int64} {x m set by1 : Nat} (hI : mInj o A) (KK : ∀ X, (∀ a, a ≠ 42 → X a = M a) → (∀ i, i ≤ 8 → X 42 i = nI 0) → WP G m_Mod_comes B 24 [(5, .int (nI 9)), (0, .ref o), (1, .int (nI x)), (2, .int (nI m)), (3, .int (nI set)), (4, .int (byI by1))] [] (hM o A F X Ml) 0 0) : ∀ (f l : Nat) (X : Nat → Nat → Int32), 9 - l < f → l ≤ 9 → (∀ a, a ≠ 42 → X a = M a) → (∀ i, i < l → X 42 i = nI 0) → WP G m_Mod_comes B 3 [(5, .int (nI l)), (0, .ref o), (1, .int (nI x)), (2, .int (nI m)), (3, .int (nI set)), (4, .int (byI by1))] [] (hM o A F X Ml) 0 0 := by
  intro f
  induction f with
  | zero =>
    intro l X h1
    omega
  | succ f ih =>
    intro l X hf hl hX hZ
    refine wp_iload d_Mod_comes_3 0 rfl ?_
    refine wp_bipush (v := nI 8) d_Mod_comes_5 (by decide) ?_
    refine wp_gtN (tgt := 24) d_Mod_comes_7 (by decide) (by omega) (by omega) (fun c7 => ?_) (fun c7 => ?_)
    · obtain rfl : l = 9 := by omega
      exact KK X hX (fun i hi => hZ i (by omega))
    · refine wp_aload_n d_Mod_comes_10 rfl 1 rfl ?_
      refine wm_get d_Mod_comes_11 42 (by decide) wF_Mod_108 rfl ?_
      refine wp_iload d_Mod_comes_14 0 rfl ?_
      refine wp_iconst (v := nI 0) d_Mod_comes_16 (by decide) ?_
      refine wm_ist (j := 42) d_Mod_comes_17 hI (by decide) (by decide) (by show _ < 9; omega) (by decide) ?_
      refine wp_iinc (lv' := [(5, .int (nI (l + 1))), (0, .ref o), (1, .int (nI x)), (2, .int (nI m)), (3, .int (nI set)), (4, .int (byI by1))]) d_Mod_comes_18 0 rfl (nI_1 _) (by decide) rfl ?_
      refine wp_goto (tgt := 3) d_Mod_comes_21 (by decide) ?_
      exact ih (l + 1) _ (by omega) (by omega) (fun a ha => by rw [u2_ne _ _ ha]; exact hX a ha) (fun i hi => by rw [u2_at]; by_cases h : i = l; (rw [if_pos h]); (rw [if_neg h]; exact hZ i (by omega)))
theorem serves_some {s : Sa} {l : Nat} (h : serves s l = true) : ∃ a b, sLn s l = some (a, b, true) := by
  unfold serves at h
  cases hc : sLn s l with
  | none => rw [hc] at h; cases h
  | some r =>
    obtain ⟨a, b, v⟩ := r
    rw [hc] at h
    cases v with
    | false => cases h
    | true => exact ⟨a, b, rfl⟩
theorem side_of {s : Sa} {l a b : Nat} {v : Bool} {x : Nat} (h : sLn s l = some (a, b, v)) : sideOf s l x = if a = x then 0 else 1 := by
  unfold sideOf
  rw [h]
set_option maxRecDepth 20000 in
theorem l_Mod_comes2 {G : Gt} {B : Bt} {o : Nat} {A : Nat → Nat} {Ml : Nat → Nat → Int64} {x m by1 : Nat} (hI : mInj o A) {q : Sa} {sh : Nat → Nat} (hLb : ∀ l a b v, sLn q l = some (a, b, v) → a < 6 ∧ b < 6) (hx : x < 6) (hm2 : m ≤ 200) (hs7 : ∀ l, sh l < 2 ^ 7) (hsv : ∀ l, l < 8 → sh l ≠ 0 → serves q l = true) (hlen : (sCp q ++ shareCopies q x m sh 8).length ≤ 2000) {v0 : Int32} (hB : 1 ≤ Bd B ∧ 16 ≤ Bw B) (KK : ∀ F X, RepM (wCp q (sCp q ++ shareCopies q x m sh 8)) F X Ml → F 0 = v0 → (∀ l, l ≤ 8 → X 42 l = nI (sh l)) → WP G m_Mod_comes B 266 [(5, .int (nI 8)), (0, .ref o), (1, .int (nI x)), (2, .int (nI m)), (4, .int (byI by1))] [] (hM o A F X Ml) 0 0) : ∀ (f l : Nat) (F : Nat → Int32) (X : Nat → Nat → Int32), 8 - l < f → l ≤ 8 → RepM (wCp q (sCp q ++ shareCopies q x m sh l)) F X Ml → F 0 = v0 → (∀ l, l ≤ 8 → X 42 l = nI (sh l)) → WP G m_Mod_comes B 209 [(5, .int (nI l)), (0, .ref o), (1, .int (nI x)), (2, .int (nI m)), (4, .int (byI by1))] [] (hM o A F X Ml) 0 0 := by
  intro f
  induction f with
  | zero =>
    intro l F X h1
    omega
  | succ f ih =>
    intro l F X hf hl hX hF hsh
    have hs7l := hs7 l
    refine wp_iload d_Mod_comes_209 0 rfl ?_
    refine wp_bipush (v := nI 8) d_Mod_comes_211 (by decide) ?_
    refine wp_geN (tgt := 266) d_Mod_comes_213 (by decide) (by omega) (by omega) (fun c213 => ?_) (fun c213 => ?_)
    · obtain rfl : l = 8 := by omega
      exact KK F X hX hF hsh
    · refine wp_aload_n d_Mod_comes_216 rfl 1 rfl ?_
      refine wm_get d_Mod_comes_217 42 (by decide) wF_Mod_108 rfl ?_
      refine wp_iload d_Mod_comes_220 0 rfl ?_
      refine wm_ild (j := 42) (x := (nI (sh l))) d_Mod_comes_222 hI (by decide) (by decide) (by show _ < 9; omega) (by decide) (hsh l (by omega)) ?_
      refine wp_if_eqN (tgt := 260) d_Mod_comes_223 (by decide) (by omega) (fun c223 => ?_) (fun c223 => ?_)
      · refine wp_iinc (lv' := [(5, .int (nI (l + 1))), (0, .ref o), (1, .int (nI x)), (2, .int (nI m)), (4, .int (byI by1))]) d_Mod_comes_260 0 rfl (nI_1 _) (by decide) rfl ?_
        refine wp_goto (tgt := 209) d_Mod_comes_263 (by decide) ?_
        exact ih (l + 1) F X (by omega) (by omega) (by rw [share_s, if_pos c223, List.append_nil]; exact hX) hF hsh
      · have hne : sh l ≠ 0 := by omega
        have hsl := hsv l (by omega) hne
        obtain ⟨a, b, hab⟩ := serves_some hsl
        have hab6 := hLb l a b true hab
        have h7l : X 7 l = nI a := ((hX.ln l (by omega)).2.2 a b true hab).1
        have hlt : (sCp q ++ shareCopies q x m sh l).length < 2000 := by have h1 := share_le q x m sh (show l + 1 ≤ 8 by omega); rw [share_s, if_neg hne] at h1; rw [List.length_append] at h1 hlen ⊢; rw [List.length_singleton] at h1; omega
        refine wp_aload_n d_Mod_comes_226 rfl 1 rfl ?_
        refine wp_iconst (v := nI 2) d_Mod_comes_227 (by decide) ?_
        refine wp_iload d_Mod_comes_228 0 rfl ?_
        refine wp_imulN d_Mod_comes_230 ?_
        refine wp_aload_n d_Mod_comes_231 rfl 1 rfl ?_
        refine wm_get d_Mod_comes_232 7 (by decide) wF_Mod_23 rfl ?_
        refine wp_iload d_Mod_comes_235 0 rfl ?_
        refine wm_ild (j := 7) (x := (nI a)) d_Mod_comes_237 hI (by decide) (by decide) (by show _ < 8; omega) (by decide) (h7l) ?_
        refine wp_iload_n d_Mod_comes_238 rfl 2 rfl ?_
        refine wp_neN (tgt := 246) d_Mod_comes_239 (by decide) (by omega) (by omega) (fun c239 => ?_) (fun c239 => ?_)
        · refine wp_iconst (v := nI 1) d_Mod_comes_246 (by decide) ?_
          refine wp_iaddN d_Mod_comes_247 ?_
          refine wp_iload_n d_Mod_comes_248 rfl 3 rfl ?_
          refine wp_aload_n d_Mod_comes_249 rfl 1 rfl ?_
          refine wm_get d_Mod_comes_250 42 (by decide) wF_Mod_108 rfl ?_
          refine wp_iload d_Mod_comes_253 0 rfl ?_
          refine wm_ild (j := 42) (x := (nI (sh l))) d_Mod_comes_255 hI (by decide) (by decide) (by show _ < 9; omega) (by decide) (hsh l (by omega)) ?_
          refine wp_iconst (v := -1) d_Mod_comes_256 (by decide) ?_
          refine wp_callU (r := 0) d_Mod_comes_257 (link_V (as := [.int (nI ((2 * l) + 1)), .int (nI m), .int (nI (sh l)), .int (-1)]) (rest := []) (r := (R_Mod, T_Mod, 43)) d_Mod_comes_257 cal_Mod_wait wM_Mod_216 rfl hM_o rfl) cal_Mod_wait (c_Mod_wait (by1 := 0) hI hX.fi.2.2.2 hlt (by omega) (by omega) (by omega) (by omega)) (Nat.le_of_ble_eq_true rfl) ⟨by have := hB.1; omega, Nat.le_trans (Nat.le_of_ble_eq_true rfl) hB.2⟩ ?_
          refine wp_iinc (lv' := [(5, .int (nI (l + 1))), (0, .ref o), (1, .int (nI x)), (2, .int (nI m)), (4, .int (byI by1))]) d_Mod_comes_260 0 rfl (nI_1 _) (by decide) rfl ?_
          refine wp_goto (tgt := 209) d_Mod_comes_263 (by decide) ?_
          exact ih (l + 1) _ _ (by omega) (by omega) (by rw [share_s, if_neg hne, side_of hab, ← List.append_assoc]; first | (rw [if_pos c239]; exact rep_wait hX _) | (rw [if_neg c239]; exact rep_wait hX _)) hF hsh
        · refine wp_iconst (v := nI 0) d_Mod_comes_242 (by decide) ?_
          refine wp_goto (tgt := 247) d_Mod_comes_243 (by decide) ?_
          refine wp_iaddN d_Mod_comes_247 ?_
          refine wp_iload_n d_Mod_comes_248 rfl 3 rfl ?_
          refine wp_aload_n d_Mod_comes_249 rfl 1 rfl ?_
          refine wm_get d_Mod_comes_250 42 (by decide) wF_Mod_108 rfl ?_
          refine wp_iload d_Mod_comes_253 0 rfl ?_
          refine wm_ild (j := 42) (x := (nI (sh l))) d_Mod_comes_255 hI (by decide) (by decide) (by show _ < 9; omega) (by decide) (hsh l (by omega)) ?_
          refine wp_iconst (v := -1) d_Mod_comes_256 (by decide) ?_
          refine wp_callU (r := 0) d_Mod_comes_257 (link_V (as := [.int (nI ((2 * l) + 0)), .int (nI m), .int (nI (sh l)), .int (-1)]) (rest := []) (r := (R_Mod, T_Mod, 43)) d_Mod_comes_257 cal_Mod_wait wM_Mod_216 rfl hM_o rfl) cal_Mod_wait (c_Mod_wait (by1 := 0) hI hX.fi.2.2.2 hlt (by omega) (by omega) (by omega) (by omega)) (Nat.le_of_ble_eq_true rfl) ⟨by have := hB.1; omega, Nat.le_trans (Nat.le_of_ble_eq_true rfl) hB.2⟩ ?_
          refine wp_iinc (lv' := [(5, .int (nI (l + 1))), (0, .ref o), (1, .int (nI x)), (2, .int (nI m)), (4, .int (byI by1))]) d_Mod_comes_260 0 rfl (nI_1 _) (by decide) rfl ?_
          refine wp_goto (tgt := 209) d_Mod_comes_263 (by decide) ?_
          exact ih (l + 1) _ _ (by omega) (by omega) (by rw [share_s, if_neg hne, side_of hab, ← List.append_assoc]; first | (rw [if_pos c239]; exact rep_wait hX _) | (rw [if_neg c239]; exact rep_wait hX _)) hF hsh
set_option maxRecDepth 20000 in
theorem c_Mod_comes {G : Gt} {o : Nat} {A : Nat → Nat} {Fi : Nat → Int32} {M : Nat → Nat → Int32} {Ml : Nat → Nat → Int64} {s : Sa} (hI : mInj o A) (hR : RepM s Fi M Ml) (hC : CI s) {x m set by1 : Nat} (hS : CS s x) (hx : x < 6) (hm : 1 ≤ m ∧ m ≤ (sMs s).length) (hset : set < 2 ^ 7) (hby : by1 ≤ 8) (hlen : (sCp (comesS s x m set by1)).length ≤ 2000) : CallE G m_Mod_comes 1 19 [.ref o, .int (nI x), .int (nI m), .int (nI set), .int (byI by1)] (hM o A Fi M Ml) 0 0 none (fun h' => ∃ F' X', h' = hM o A F' X' Ml ∧ RepM (comesS s x m set by1) F' X' Ml ∧ F' 0 = Fi 0) := by
  obtain ⟨r, hr⟩ := get_of (l := sMs s) (i := m - 1) (by omega)
  have hr7 := (hC.2.2.1 r (List.mem_of_getElem? hr)).2
  have hm2 : m ≤ 200 := Nat.le_trans hm.2 hC.1
  have hcnt : cntOf s m = r.2.1.length := by unfold cntOf; rw [List.getD_eq_getElem?_getD, hr]; rfl
  have hcf := CF_loop (x := x) (by1 := by1) (set := set) (as := r.2.1) hC hm r.2.1.length (by rw [hcnt]; exact Nat.le_refl _)
  have hcs : comesS s x m set by1 = wCp (comeLoop x m by1 r.2.1 set r.2.1.length (s, fun _ => 0)).1 (sCp (comeLoop x m by1 r.2.1 set r.2.1.length (s, fun _ => 0)).1 ++ shareCopies (comeLoop x m by1 r.2.1 set r.2.1.length (s, fun _ => 0)).1 x m (comeLoop x m by1 r.2.1 set r.2.1.length (s, fun _ => 0)).2 8 ++ (if (comeLoop x m by1 r.2.1 set r.2.1.length (s, fun _ => 0)).2 8 = 0 then [] else [(16 + x, m, (comeLoop x m by1 r.2.1 set r.2.1.length (s, fun _ => 0)).2 8, by1)])) := by
    unfold comesS
    rw [List.getD_eq_getElem?_getD, hr]
    rfl
  rw [hcs] at hlen ⊢
  have hlen : (sCp (comeLoop x m by1 r.2.1 set r.2.1.length (s, fun _ => 0)).1 ++ shareCopies (comeLoop x m by1 r.2.1 set r.2.1.length (s, fun _ => 0)).1 x m (comeLoop x m by1 r.2.1 set r.2.1.length (s, fun _ => 0)).2 8 ++ (if (comeLoop x m by1 r.2.1 set r.2.1.length (s, fun _ => 0)).2 8 = 0 then [] else [(16 + x, m, (comeLoop x m by1 r.2.1 set r.2.1.length (s, fun _ => 0)).2 8, by1)])).length ≤ 2000 := hlen
  generalize hq : comeLoop x m by1 r.2.1 set r.2.1.length (s, fun _ => 0) = q at hcf hlen ⊢
  have hs7 : ∀ l, q.2 l < 2 ^ 7 := fun l => Nat.lt_of_lt_of_le (hcf.2.2.1 l) (Nat.pow_le_pow_right (by decide) hr7)
  have hs78 := hs7 8
  have hlen8 : (sCp q.1 ++ shareCopies q.1 x m q.2 8).length ≤ 2000 := by rw [List.length_append] at hlen; omega
  refine CallS.of (Nat.le_of_ble_eq_true rfl) ?_
  refine wp_iconst (v := nI 0) d_Mod_comes_0 (by decide) ?_
  refine wp_istore (lv' := [(5, .int (nI 0)), (0, .ref o), (1, .int (nI x)), (2, .int (nI m)), (3, .int (nI set)), (4, .int (byI by1))]) d_Mod_comes_1 (by decide) rfl ?_
  refine wp_lv [0, 1, 2, 3, 4, 5] rfl ?_
  refine l_Mod_comes0 hI (fun X hX0 hZ => ?_) 10 0 M (by omega) (by omega) (fun _ _ => rfl) (fun i hi => absurd hi (by omega))
  refine wp_iconst (v := nI 0) d_Mod_comes_24 (by decide) ?_
  refine wp_istore (lv' := [(5, .int (nI 0)), (0, .ref o), (1, .int (nI x)), (2, .int (nI m)), (3, .int (nI set)), (4, .int (byI by1))]) d_Mod_comes_25 (by decide) rfl ?_
  refine wp_lv [0, 1, 2, 3, 4, 5] rfl ?_
  have hRX : RepM s Fi X Ml := by
    obtain ⟨r1, r2, r3, r4, r5, r6, r7, r8, r9, r10, r11⟩ := hR
    exact ⟨r1, (by rw [hX0 3 (by decide), hX0 4 (by decide), hX0 5 (by decide)]; exact r2), (by rw [hX0 6 (by decide), hX0 7 (by decide), hX0 8 (by decide), hX0 9 (by decide)]; exact r3), (by rw [hX0 10 (by decide), hX0 12 (by decide), hX0 13 (by decide), hX0 14 (by decide)]; exact r4), (by rw [hX0 16 (by decide), hX0 17 (by decide), hX0 18 (by decide), hX0 19 (by decide)]; exact r5), (by rw [hX0 21 (by decide)]; exact r6), (by rw [hX0 23 (by decide)]; exact r7), (by rw [hX0 24 (by decide), hX0 25 (by decide), hX0 26 (by decide), hX0 27 (by decide), hX0 28 (by decide), hX0 29 (by decide), hX0 30 (by decide), hX0 31 (by decide), hX0 32 (by decide)]; exact r8), (by rw [hX0 33 (by decide)]; exact r9), (by rw [hX0 34 (by decide)]; exact r10), (by rw [hX0 35 (by decide), hX0 36 (by decide)]; exact r11)⟩
  refine l_Mod_comes1 hI hS hx hm hset hby hr hr7 hm2 ⟨Nat.le_of_ble_eq_true rfl, Nat.le_of_ble_eq_true rfl⟩ (fun X1 hX1 hsh1 => ?_) (r.2.1.length + 1) 0 (s, fun _ => 0) X (by omega) (by omega) rfl hRX (fun l hl => hZ l hl) ⟨⟨rfl, rfl, rfl, rfl, rfl, rfl, rfl⟩, hC, fun _ => (show 0 < 1 by decide), fun _ _ h => absurd rfl h⟩
  rw [hq] at hX1 hsh1
  refine wp_iconst (v := nI 0) d_Mod_comes_206 (by decide) ?_
  refine wp_istore (lv' := [(5, .int (nI 0)), (0, .ref o), (1, .int (nI x)), (2, .int (nI m)), (4, .int (byI by1))]) d_Mod_comes_207 (by decide) rfl ?_
  refine wp_lv [0, 1, 2, 3, 4] rfl ?_
  refine l_Mod_comes2 (q := q.1) (sh := q.2) (v0 := Fi 0) hI (fun l a b v h => hS.1 l a b v (by rw [← hcf.1.1]; exact h)) hx hm2 hs7 (fun l hl h => by rw [serves_eq hcf.1.1]; exact hcf.2.2.2 l hl h) hlen8 ⟨Nat.le_of_ble_eq_true rfl, Nat.le_of_ble_eq_true rfl⟩ (fun F X hX hF hsh => ?_) 9 0 Fi X1 (by omega) (by omega) (by rw [show shareCopies q.1 x m q.2 0 = [] from rfl, List.append_nil]; exact hX1) rfl hsh1
  refine wp_aload_n d_Mod_comes_266 rfl 1 rfl ?_
  refine wm_get d_Mod_comes_267 42 (by decide) wF_Mod_108 rfl ?_
  refine wp_bipush (v := nI 8) d_Mod_comes_270 (by decide) ?_
  refine wm_ild (j := 42) (x := (nI (q.2 8))) d_Mod_comes_272 hI (by decide) (by decide) (by show _ < 9; omega) (by decide) (hsh 8 (by omega)) ?_
  refine wp_if_eqN (tgt := 294) d_Mod_comes_273 (by decide) (by omega) (fun c273 => ?_) (fun c273 => ?_)
  · exact wp_vret d_Mod_comes_294 rfl ⟨rfl, _, _, rfl, by rw [if_pos c273, List.append_nil]; exact hX, hF⟩
  · refine wp_aload_n d_Mod_comes_276 rfl 1 rfl ?_
    refine wp_bipush (v := nI 16) d_Mod_comes_277 (by decide) ?_
    refine wp_iload_n d_Mod_comes_279 rfl 2 rfl ?_
    refine wp_iaddN d_Mod_comes_280 ?_
    refine wp_iload_n d_Mod_comes_281 rfl 3 rfl ?_
    refine wp_aload_n d_Mod_comes_282 rfl 1 rfl ?_
    refine wm_get d_Mod_comes_283 42 (by decide) wF_Mod_108 rfl ?_
    refine wp_bipush (v := nI 8) d_Mod_comes_286 (by decide) ?_
    refine wm_ild (j := 42) (x := (nI (q.2 8))) d_Mod_comes_288 hI (by decide) (by decide) (by show _ < 9; omega) (by decide) (hsh 8 (by omega)) ?_
    refine wp_iload d_Mod_comes_289 4 rfl ?_
    have hlt : (sCp q.1 ++ shareCopies q.1 x m q.2 8).length < 2000 := by rw [if_neg (show ¬ q.2 8 = 0 by omega), List.length_append, List.length_singleton] at hlen; omega
    refine wp_callU (r := 0) d_Mod_comes_291 (link_V (as := [.int (nI (16 + x)), .int (nI m), .int (nI (q.2 8)), .int (byI by1)]) (rest := []) (r := (R_Mod, T_Mod, 43)) d_Mod_comes_291 cal_Mod_wait wM_Mod_216 rfl hM_o rfl) cal_Mod_wait (c_Mod_wait hI hX.fi.2.2.2 hlt (by omega) (by omega) (by omega) (by omega)) (Nat.le_of_ble_eq_true rfl) ⟨Nat.le_of_ble_eq_true rfl, Nat.le_of_ble_eq_true rfl⟩ ?_
    exact wp_vret d_Mod_comes_294 rfl ⟨rfl, _, _, rfl, by rw [if_neg (show ¬ q.2 8 = 0 by omega)]; exact rep_wait hX _, hF⟩
end Mod24
