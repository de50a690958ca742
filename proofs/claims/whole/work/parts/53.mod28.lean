section Mod28
def bStep (s : Sa) (c : Nat) (b : Option Nat) (i : Nat) : Option Nat := if ((sCp s).getD i (0, 0, 0, 0)).1 = c then (match b with
    | none => some i
    | some j => if prioOf s ((sCp s).getD i (0, 0, 0, 0)).2.1 < prioOf s ((sCp s).getD j (0, 0, 0, 0)).2.1 then some i else b) else b
def bIdx (s : Sa) (c k : Nat) : Option Nat := (List.range k).foldl (bStep s c) none
theorem bIdx_all (s : Sa) (c : Nat) : bestOf s c = bIdx s c (sCp s).length := rfl
theorem bIdx_s (s : Sa) (c k : Nat) : bIdx s c (k + 1) = bStep s c (bIdx s c k) k := by
  unfold bIdx
  rw [List.range_succ, List.foldl_append]
  rfl
theorem bIdx_lt {s : Sa} {c : Nat} : ∀ {k i : Nat}, bIdx s c k = some i → i < k ∧ ((sCp s).getD i (0, 0, 0, 0)).1 = c
  | 0, i, h => by cases h
  | k + 1, i, h => by
    rw [bIdx_s] at h
    unfold bStep at h
    split at h
    · rename_i hc
      split at h
      · cases h
        exact ⟨by omega, hc⟩
      · rename_i j hj
        split at h
        · cases h
          exact ⟨by omega, hc⟩
        · have := bIdx_lt (hj.trans (by first | rfl | (rw [← h])))
          rw [hj] at h
          cases h
          exact ⟨by omega, this.2⟩
    · have := bIdx_lt h
      exact ⟨by omega, this.2⟩
theorem getD_of {l : List (Nat × Nat × Nat × Nat)} {i : Nat} {c : Nat × Nat × Nat × Nat} (h : l[i]? = some c) : l.getD i (0, 0, 0, 0) = c := by
  rw [List.getD_eq_getElem?_getD, h]
  rfl
theorem va_va {α : Type} (f : Nat → α) (c : Nat) (x z : α) : va_up (va_up f c x) c z = va_up f c z := by
  funext i
  unfold va_up
  by_cases h : i = c
  · rw [if_pos h, if_pos h]
  · rw [if_neg h, if_neg h, if_neg h]
/-- one more is sent -/
def sentC (d : Ch) (x : Nat × Nat) : Ch := (cSent d ++ [x], cKept d + 1, cExp d, cWire d, cPut d, cAsk d)
theorem encF_app {sent : List (Nat × Nat)} {x f : Nat × Nat} (h : f.1 = 0 → 1 ≤ f.2 ∧ f.2 ≤ sent.length) : encF (sent ++ [x]) f = encF sent f := by
  unfold encF
  by_cases h0 : f.1 = 0
  · rw [if_pos h0, if_pos h0]
    have := h h0
    rw [List.getD_eq_getElem?_getD, List.getD_eq_getElem?_getD, List.getElem?_append_left (by omega)]
  · rw [if_neg h0, if_neg h0]
theorem RC_sent {d : Ch} {c : Nat} {M : Nat → Nat → Int32} {x : Nat × Nat} (hb : bCh d) (hk : cKept d < 20) (h : RC true d c M) : RC true (sentC d x) c (u2 (u2 (u2 M 27 (20 * c + cKept d) (nI (x.1 * 2 ^ 8 + x.2))) 26 c (nI (cKept d + 1))) 24 c (nI ((cSent d).length + 1 + 1))) := by
  obtain ⟨h1, h2, h3, h4, h5, h6, h7⟩ := h
  obtain ⟨b1, b2, b3, b4, b5, b6, b7⟩ := hb
  refine ⟨fun _ => ⟨?_, (h1 rfl).2⟩, ?_, fun k z hkz hz => ?_, h4, fun k f hf => ?_, h6, h7⟩
  · rw [u2_at, if_pos rfl]
    show _ = nI ((cSent d ++ [x]).length + 1)
    rw [List.length_append]
    rfl
  · rw [u2_ne _ _ (by decide), u2_at, if_pos rfl]
    rfl
  · have hz2 : (cSent d ++ [x])[(cSent d ++ [x]).length - (cKept d + 1) + k]? = some z := hz
    have hkz2 : k < cKept d + 1 := hkz
    rw [List.length_append, List.length_singleton, show (cSent d).length + 1 - (cKept d + 1) + k = (cSent d).length - cKept d + k by omega] at hz2
    rw [u2_ne _ _ (by decide), u2_ne _ _ (by decide), u2_at]
    by_cases hkk : k = cKept d
    · rw [if_pos (by rw [hkk])]
      rw [hkk, show (cSent d).length - cKept d + cKept d = (cSent d).length by omega] at hz2
      simp at hz2
      rw [hz2]
    · rw [if_neg (by omega)]
      rw [List.getElem?_append_left (by omega)] at hz2
      exact h3 k z (by omega) hz2
  · have := b7 f (List.mem_of_getElem? hf)
    show M 29 _ = nI (encF (cSent d ++ [x]) f)
    rw [encF_app (fun q => ⟨this.2.1, this.2.2.2 q⟩)]
    exact h5 k f hf
theorem agr_sent {d : Ch} {c : Nat} {M : Nat → Nat → Int32} {v w z : Int32} (hk : cKept d < 20) : agr c M (u2 (u2 (u2 M 27 (20 * c + cKept d) v) 26 c w) 24 c z) :=
  agr.trans (agr.trans (agr_u2 (j := 27) (by decide) ⟨fun h => absurd rfl h, fun _ => by omega, fun h => absurd h (by decide)⟩) (agr_u2 (j := 26) (by decide) ⟨fun _ _ => rfl, fun h => absurd h (by decide), fun h => absurd h (by decide)⟩)) (agr_u2 (j := 24) (by decide) ⟨fun _ _ => rfl, fun h => absurd h (by decide), fun h => absurd h (by decide)⟩)
theorem sentC_b {d : Ch} {x : Nat × Nat} (hb : bCh d) (hk : cKept d < 20) (hl : (cSent d).length < 512) (hx : (1 ≤ x.1 ∧ x.1 ≤ 200) ∧ x.2 < 128) : bCh (sentC d x) := by
  obtain ⟨b1, b2, b3, b4, b5, b6, b7⟩ := hb
  have hlen : (cSent (sentC d x)).length = (cSent d).length + 1 := by
    show (cSent d ++ [x]).length = _
    rw [List.length_append]
    rfl
  refine ⟨by show cKept d + 1 ≤ 20; omega, by rw [hlen]; show cKept d + 1 ≤ _; omega, by omega, fun z hz => ?_, b5, b6, fun f hf => ?_⟩
  · rcases List.mem_append.mp hz with hz | hz
    · exact b4 z hz
    · rw [List.mem_singleton.mp hz]; exact hx
  · have := b7 f hf
    refine ⟨this.1, this.2.1, this.2.2.1, fun q => ?_⟩
    have := this.2.2.2 q
    rw [hlen]
    omega
theorem va_bnd {s : Sa} {c : Nat} {d : Ch} (h : ∀ c, cKept (sCh s c) ≤ 20 ∧ (cWire (sCh s c)).length ≤ 200) (hd : cKept d ≤ 20 ∧ (cWire d).length ≤ 200) (i : Nat) : cKept (va_up (sCh s) c d i) ≤ 20 ∧ (cWire (va_up (sCh s) c d i)).length ≤ 200 := by
  unfold va_up
  by_cases hi : i = c
  · rw [if_pos hi]; exact hd
  · rw [if_neg hi]; exact h i
set_option maxRecDepth 20000 in
theorem c_Mod_send0 {G : Gt} {o : Nat} {A : Nat → Nat} {Fi : Nat → Int32} {M : Nat → Nat → Int32} {Ml : Nat → Nat → Int64} {s : Sa} (hI : mInj o A) (hL : RLn s (M 6) (M 7) (M 8) (M 9)) {x z : Int32} (hx : chOK s x z = false) : CallR G m_Mod_send 3 42 [.ref o, .int x, .int z] (hM o A Fi M Ml) 0 0 (some (.int (nI 0))) (hM o A (va_up Fi 0 (nI 1)) M Ml) := by
  refine CallS.of (Nat.le_of_ble_eq_true rfl) ?_
  refine wp_aload_n d_Mod_send_0 rfl 0 rfl ?_
  refine wp_iload_n d_Mod_send_1 rfl 1 rfl ?_
  refine wp_iload_n d_Mod_send_2 rfl 2 rfl ?_
  refine wp_callV (r := 0) d_Mod_send_3 (link_V (as := [.int x, .int z]) (rest := []) (r := (R_Mod, T_Mod, 43)) d_Mod_send_3 cal_Mod_isChannel wM_Mod_230 rfl hM_o rfl) cal_Mod_isChannel (c_Mod_isChannelF hI hL hx) (Nat.le_of_ble_eq_true rfl) ⟨Nat.le_of_ble_eq_true rfl, Nat.le_of_ble_eq_true rfl⟩ ?_
  refine wp_if_neB (tgt := 11) d_Mod_send_6 (by decide) (fun c => absurd c (by decide)) (fun _ => ?_)
  refine wp_iconst (v := nI 0) d_Mod_send_9 (by decide) ?_
  exact wp_iret d_Mod_send_10 rfl ⟨rfl, rfl⟩
set_option maxRecDepth 20000 in
theorem l_Mod_send {G : Gt} {B : Bt} {o : Nat} {A : Nat → Nat} {Fi : Nat → Int32} {M : Nat → Nat → Int32} {Ml : Nat → Nat → Int64} {s : Sa} (hI : mInj o A) {n : Nat} (hV : Inv n s) (hR : RepM s Fi M Ml) {l c : Nat} (hc2 : c < 16) (KK : WP G m_Mod_send B 106 [(4, .int (o2i (bestOf s c))), (0, .ref o), (1, .int (nI l)), (3, .int (nI c))] [] (hM o A Fi M Ml) 0 0) : ∀ (f k : Nat) (z : Int32), (sCp s).length - k < f → k ≤ (sCp s).length → z = o2i (bIdx s c k) → WP G m_Mod_send B 23 [(5, .int (nI k)), (4, .int z), (0, .ref o), (1, .int (nI l)), (3, .int (nI c))] [] (hM o A Fi M Ml) 0 0 := by
  have hb := c_bCp hV
  have hlen := hb.1
  intro f
  induction f with
  | zero =>
    intro k z h1
    omega
  | succ f ih =>
    intro k z hf hk hz
    cases hbi : bIdx s c k with
    | none =>
      rw [hbi] at hz
      subst hz
      refine wp_iload d_Mod_send_23 0 rfl ?_
      refine wp_aload_n d_Mod_send_25 rfl 2 rfl ?_
      refine wm_get d_Mod_send_26 22 (by decide) wF_Mod_202 rfl ?_
      refine wp_toI (z := (nI ((sCp s).length))) (hR.fi.2.2.2) ?_
      refine wp_geN (tgt := 106) d_Mod_send_29 (by decide) (by omega) (by omega) (fun c29 => ?_) (fun c29 => ?_)
      · refine wp_lv [1, 2, 3, 4] rfl ?_
        obtain rfl : k = (sCp s).length := by omega
        rw [bIdx_all, hbi] at KK
        exact KK
      · obtain ⟨e, he⟩ := get_of c29
        have hem := List.mem_of_getElem? he
        have heb := encC_ok (hb.2 e hem)
        have hed := hb.2 e hem
        obtain ⟨re, hre0, hre1, hre2, hre3, hre4, hre5, hre6⟩ := RMs_at hR.ms (hV.cp hem).1 (hV.cp hem).2
        have hre7 := (hV.ms hre2).1
        have hre8 : prioOf s e.2.1 = re.1 := by unfold prioOf; rw [hre1]
        refine wp_aload_n d_Mod_send_32 rfl 2 rfl ?_
        refine wm_get d_Mod_send_33 23 (by decide) wF_Mod_66 rfl ?_
        refine wp_iload d_Mod_send_36 0 rfl ?_
        refine wm_ild (j := 23) (x := (nI (encC e))) d_Mod_send_38 hI (by decide) (by decide) (by show _ < 2000; omega) (by decide) (hR.cp k e he) ?_
        refine wp_bipush (v := nI 20) d_Mod_send_39 (by decide) ?_
        refine wp_ishrN d_Mod_send_41 (by omega) (by omega) ?_
        refine wp_toI (z := (nI (e.1))) (congrArg nI heb.1) ?_
        refine wp_iload_n d_Mod_send_42 rfl 4 rfl ?_
        refine wp_eqN (tgt := 49) d_Mod_send_43 (by decide) (by omega) (by omega) (fun c43 => ?_) (fun c43 => ?_)
        · refine wp_iload d_Mod_send_49 1 rfl ?_
          refine wp_iconst (v := -1) d_Mod_send_51 (by decide) ?_
          refine wp_icmp_eq (tgt := 96) d_Mod_send_52 (by decide) (fun _ => ?_) (fun c => absurd c (by decide))
          refine wp_iload d_Mod_send_96 0 rfl ?_
          refine wp_istore (lv' := [(4, .int (nI k)), (5, .int (nI k)), (0, .ref o), (1, .int (nI l)), (3, .int (nI c))]) d_Mod_send_98 (by decide) rfl ?_
          refine wp_iinc (lv' := [(5, .int (nI (k + 1))), (4, .int (nI k)), (0, .ref o), (1, .int (nI l)), (3, .int (nI c))]) d_Mod_send_100 1 rfl (nI_1 _) (by decide) rfl ?_
          refine wp_goto (tgt := 23) d_Mod_send_103 (by decide) ?_
          refine wp_lv [0, 1, 2, 3, 4] rfl ?_
          exact ih (k + 1) _ (by omega) (by omega) (by rw [bIdx_s]; unfold bStep; rw [getD_of he, hbi]; simp only [if_pos c43]; rfl)
        · refine wp_goto (tgt := 100) d_Mod_send_46 (by decide) ?_
          refine wp_iinc (lv' := [(5, .int (nI (k + 1))), (4, .int (-1)), (0, .ref o), (1, .int (nI l)), (3, .int (nI c))]) d_Mod_send_100 0 rfl (nI_1 _) (by decide) rfl ?_
          refine wp_goto (tgt := 23) d_Mod_send_103 (by decide) ?_
          refine wp_lv [0, 1, 2, 3, 4] rfl ?_
          exact ih (k + 1) _ (by omega) (by omega) (by rw [bIdx_s]; unfold bStep; rw [getD_of he, hbi]; simp only [if_neg c43]; rfl)
    | some jj =>
      rw [hbi] at hz
      subst hz
      have hjk := bIdx_lt hbi
      obtain ⟨j, hj⟩ := get_of (l := sCp s) (i := jj) (by omega)
      have hjm := List.mem_of_getElem? hj
      have hjb := encC_ok (hb.2 j hjm)
      have hjd := hb.2 j hjm
      obtain ⟨rj, hrj0, hrj1, hrj2, hrj3, hrj4, hrj5, hrj6⟩ := RMs_at hR.ms (hV.cp hjm).1 (hV.cp hjm).2
      have hrj7 := (hV.ms hrj2).1
      have hrj8 : prioOf s j.2.1 = rj.1 := by unfold prioOf; rw [hrj1]
      refine wp_iload d_Mod_send_23 0 rfl ?_
      refine wp_aload_n d_Mod_send_25 rfl 2 rfl ?_
      refine wm_get d_Mod_send_26 22 (by decide) wF_Mod_202 rfl ?_
      refine wp_toI (z := (nI ((sCp s).length))) (hR.fi.2.2.2) ?_
      refine wp_geN (tgt := 106) d_Mod_send_29 (by decide) (by omega) (by omega) (fun c29 => ?_) (fun c29 => ?_)
      · refine wp_lv [1, 2, 3, 4] rfl ?_
        obtain rfl : k = (sCp s).length := by omega
        rw [bIdx_all, hbi] at KK
        exact KK
      · obtain ⟨e, he⟩ := get_of c29
        have hem := List.mem_of_getElem? he
        have heb := encC_ok (hb.2 e hem)
        have hed := hb.2 e hem
        obtain ⟨re, hre0, hre1, hre2, hre3, hre4, hre5, hre6⟩ := RMs_at hR.ms (hV.cp hem).1 (hV.cp hem).2
        have hre7 := (hV.ms hre2).1
        have hre8 : prioOf s e.2.1 = re.1 := by unfold prioOf; rw [hre1]
        refine wp_aload_n d_Mod_send_32 rfl 2 rfl ?_
        refine wm_get d_Mod_send_33 23 (by decide) wF_Mod_66 rfl ?_
        refine wp_iload d_Mod_send_36 0 rfl ?_
        refine wm_ild (j := 23) (x := (nI (encC e))) d_Mod_send_38 hI (by decide) (by decide) (by show _ < 2000; omega) (by decide) (hR.cp k e he) ?_
        refine wp_bipush (v := nI 20) d_Mod_send_39 (by decide) ?_
        refine wp_ishrN d_Mod_send_41 (by omega) (by omega) ?_
        refine wp_toI (z := (nI (e.1))) (congrArg nI heb.1) ?_
        refine wp_iload_n d_Mod_send_42 rfl 4 rfl ?_
        refine wp_eqN (tgt := 49) d_Mod_send_43 (by decide) (by omega) (by omega) (fun c43 => ?_) (fun c43 => ?_)
        · refine wp_iload d_Mod_send_49 1 rfl ?_
          refine wp_iconst (v := -1) d_Mod_send_51 (by decide) ?_
          refine wp_icmp_eq (tgt := 96) d_Mod_send_52 (by decide) (fun c => absurd c (nI_m1 (by omega))) (fun _ => ?_)
          refine wp_aload_n d_Mod_send_55 rfl 2 rfl ?_
          refine wm_get d_Mod_send_56 18 (by decide) wF_Mod_54 rfl ?_
          refine wp_aload_n d_Mod_send_59 rfl 2 rfl ?_
          refine wm_get d_Mod_send_60 23 (by decide) wF_Mod_66 rfl ?_
          refine wp_iload d_Mod_send_63 0 rfl ?_
          refine wm_ild (j := 23) (x := (nI (encC e))) d_Mod_send_65 hI (by decide) (by decide) (by show _ < 2000; omega) (by decide) (hR.cp k e he) ?_
          refine wp_bipush (v := nI 12) d_Mod_send_66 (by decide) ?_
          refine wp_ishrN d_Mod_send_68 (by omega) (by omega) ?_
          refine wp_sipush (v := nI 255) d_Mod_send_69 (by decide) ?_
          refine wp_iandM (c := 8) d_Mod_send_72 (by omega) (by decide) ?_
          refine wp_toI (z := (nI (e.2.1))) (congrArg nI heb.2.1) ?_
          refine wm_ild (j := 18) (x := (nI (re.1))) d_Mod_send_73 hI (by decide) (by decide) (by show _ < 201; omega) (by decide) (hre5) ?_
          refine wp_aload_n d_Mod_send_74 rfl 2 rfl ?_
          refine wm_get d_Mod_send_75 18 (by decide) wF_Mod_54 rfl ?_
          refine wp_aload_n d_Mod_send_78 rfl 2 rfl ?_
          refine wm_get d_Mod_send_79 23 (by decide) wF_Mod_66 rfl ?_
          refine wp_iload d_Mod_send_82 1 rfl ?_
          refine wm_ild (j := 23) (x := (nI (encC j))) d_Mod_send_84 hI (by decide) (by decide) (by show _ < 2000; omega) (by decide) (hR.cp jj j hj) ?_
          refine wp_bipush (v := nI 12) d_Mod_send_85 (by decide) ?_
          refine wp_ishrN d_Mod_send_87 (by omega) (by omega) ?_
          refine wp_sipush (v := nI 255) d_Mod_send_88 (by decide) ?_
          refine wp_iandM (c := 8) d_Mod_send_91 (by omega) (by decide) ?_
          refine wp_toI (z := (nI (j.2.1))) (congrArg nI hjb.2.1) ?_
          refine wm_ild (j := 18) (x := (nI (rj.1))) d_Mod_send_92 hI (by decide) (by decide) (by show _ < 201; omega) (by decide) (hrj5) ?_
          refine wp_geN (tgt := 100) d_Mod_send_93 (by decide) (by omega) (by omega) (fun c93 => ?_) (fun c93 => ?_)
          · refine wp_iinc (lv' := [(5, .int (nI (k + 1))), (4, .int (nI jj)), (0, .ref o), (1, .int (nI l)), (3, .int (nI c))]) d_Mod_send_100 0 rfl (nI_1 _) (by decide) rfl ?_
            refine wp_goto (tgt := 23) d_Mod_send_103 (by decide) ?_
            refine wp_lv [0, 1, 2, 3, 4] rfl ?_
            exact ih (k + 1) _ (by omega) (by omega) (by rw [bIdx_s]; unfold bStep; rw [getD_of he, hbi]; first | (simp only [if_neg c43]; rfl) | (simp only [if_pos c43, getD_of hj, hre8, hrj8, if_neg (show ¬ re.1 < rj.1 by omega)]; rfl))
          · refine wp_iload d_Mod_send_96 0 rfl ?_
            refine wp_istore (lv' := [(4, .int (nI k)), (5, .int (nI k)), (0, .ref o), (1, .int (nI l)), (3, .int (nI c))]) d_Mod_send_98 (by decide) rfl ?_
            refine wp_iinc (lv' := [(5, .int (nI (k + 1))), (4, .int (nI k)), (0, .ref o), (1, .int (nI l)), (3, .int (nI c))]) d_Mod_send_100 1 rfl (nI_1 _) (by decide) rfl ?_
            refine wp_goto (tgt := 23) d_Mod_send_103 (by decide) ?_
            refine wp_lv [0, 1, 2, 3, 4] rfl ?_
            exact ih (k + 1) _ (by omega) (by omega) (by rw [bIdx_s]; unfold bStep; rw [getD_of he, hbi]; simp only [if_pos c43, getD_of hj, hre8, hrj8, if_pos c93]; rfl)
        · refine wp_goto (tgt := 100) d_Mod_send_46 (by decide) ?_
          refine wp_iinc (lv' := [(5, .int (nI (k + 1))), (4, .int (nI jj)), (0, .ref o), (1, .int (nI l)), (3, .int (nI c))]) d_Mod_send_100 0 rfl (nI_1 _) (by decide) rfl ?_
          refine wp_goto (tgt := 23) d_Mod_send_103 (by decide) ?_
          refine wp_lv [0, 1, 2, 3, 4] rfl ?_
          exact ih (k + 1) _ (by omega) (by omega) (by rw [bIdx_s]; unfold bStep; rw [getD_of he, hbi]; first | (simp only [if_neg c43]; rfl) | (simp only [if_pos c43, getD_of hj, hre8, hrj8, if_neg (show ¬ re.1 < rj.1 by omega)]; rfl))
theorem send_eq {s : Sa} {j b : Nat} {e : Nat × Nat × Nat × Nat} (he : (sCp s)[b]? = some e) : sendS s j b = ch1 (wCp (ch1 s j (sentC (sCh s j) (e.2.1, e.2.2.1))) ((sCp s).eraseIdx b)) j (layKeptC (sentC (sCh s j) (e.2.1, e.2.2.1)) (cKept (sCh s j)) (sMin s)) := by
  unfold sendS
  simp only [getD_of he]
  show (s.1, s.2.1, s.2.2.1, s.2.2.2.1, s.2.2.2.2.1, s.2.2.2.2.2.1, (sCp s).eraseIdx b, va_up (sCh s) j _, s.2.2.2.2.2.2.2.2) = (s.1, s.2.1, s.2.2.1, s.2.2.2.1, s.2.2.2.2.1, s.2.2.2.2.2.1, (sCp s).eraseIdx b, va_up (va_up (sCh s) j _) j _, s.2.2.2.2.2.2.2.2)
  rw [va_va]
  rfl
set_option maxRecDepth 20000 in
theorem c_Mod_send1 {G : Gt} {o : Nat} {A : Nat → Nat} {Fi : Nat → Int32} {M : Nat → Nat → Int32} {Ml : Nat → Nat → Int64} {s : Sa} (hI : mInj o A) {n : Nat} (hR : RepM s Fi M Ml) (hV : Inv n s) (hn : n < 512) {l c : Nat} (hl : l < 8) (hc : c < 2) (hx : chOK s (nI l) (nI c) = true) (hs : (sLn s l).isSome = true) : CallE G m_Mod_send 3 42 [.ref o, .int (nI l), .int (nI c)] (hM o A Fi M Ml) 0 0 (some (.int (stSend s (nI l) (nI c)).2.1)) (RefOK o A (stSend s (nI l) (nI c))) := by
  have hL := hR.ln
  have hb := c_bCp hV
  have hlen := hb.1
  have hcB := hV.bCh (2 * l + c)
  have hk0 := hcB.1
  have hsl := (hV.2.2.1.2.2.2.1 (2 * l + c)).2.2.1
  have hs2 : (sLn s ((2 * l + c) / 2)).isSome = true := by rw [show (2 * l + c) / 2 = l by omega]; exact hs
  have hch : RC true (sCh s (2 * l + c)) (2 * l + c) M := by have := hR.ch (2 * l + c) (by omega); rw [hs2] at this; exact this
  have hst0 : stSend s (nI l) (nI c) = match bestOf s (2 * l + c) with
    | none => (0, 0, s)
    | some b => if cKept (sCh s (2 * l + c)) = 20 ∨ serves s l = false then (0, 0, s) else (0, nI ((cSent (sCh s (2 * l + c))).length + 1), sendS s (2 * l + c) b) := by
    unfold stSend
    rw [if_pos hx, nN_nI (by omega), nN_nI (by omega)]
    rfl
  refine CallS.of (Nat.le_of_ble_eq_true rfl) ?_
  refine wp_aload_n d_Mod_send_0 rfl 0 rfl ?_
  refine wp_iload_n d_Mod_send_1 rfl 1 rfl ?_
  refine wp_iload_n d_Mod_send_2 rfl 2 rfl ?_
  refine wp_callV (r := 0) d_Mod_send_3 (link_V (as := [.int (nI l), .int (nI c)]) (rest := []) (r := (R_Mod, T_Mod, 43)) d_Mod_send_3 cal_Mod_isChannel wM_Mod_230 rfl hM_o rfl) cal_Mod_isChannel (c_Mod_isChannelT hI hL hx) (Nat.le_of_ble_eq_true rfl) ⟨Nat.le_of_ble_eq_true rfl, Nat.le_of_ble_eq_true rfl⟩ ?_
  refine wp_if_neB (tgt := 11) d_Mod_send_6 (by decide) (fun _ => ?_) (fun c => absurd c (by decide))
  refine wp_iconst (v := nI 2) d_Mod_send_11 (by decide) ?_
  refine wp_iload_n d_Mod_send_12 rfl 1 rfl ?_
  refine wp_imulN d_Mod_send_13 ?_
  refine wp_iload_n d_Mod_send_14 rfl 2 rfl ?_
  refine wp_iaddN d_Mod_send_15 ?_
  refine wp_istore_n (lv' := [(3, .int (nI ((2 * l) + c))), (0, .ref o), (1, .int (nI l)), (2, .int (nI c))]) d_Mod_send_16 rfl (by decide) rfl ?_
  refine wp_iconst (v := -1) d_Mod_send_17 (by decide) ?_
  refine wp_istore (lv' := [(4, .int (-1)), (3, .int (nI ((2 * l) + c))), (0, .ref o), (1, .int (nI l)), (2, .int (nI c))]) d_Mod_send_18 (by decide) rfl ?_
  refine wp_iconst (v := nI 0) d_Mod_send_20 (by decide) ?_
  refine wp_istore (lv' := [(5, .int (nI 0)), (4, .int (-1)), (3, .int (nI ((2 * l) + c))), (0, .ref o), (1, .int (nI l)), (2, .int (nI c))]) d_Mod_send_21 (by decide) rfl ?_
  refine wp_lv [0, 1, 3, 4, 2] rfl ?_
  refine l_Mod_send (Fi := (va_up Fi 0 (nI 0))) (c := 2 * l + c) hI hV (show RepM s (va_up Fi 0 (nI 0)) M Ml from hR) (by omega) ?_ ((sCp s).length + 1) 0 _ (by omega) (by omega) rfl
  cases hbo : bestOf s (2 * l + c) with
  | none =>
    have hst : stSend s (nI l) (nI c) = (0, 0, s) := by rw [hst0, hbo]
    refine wp_iload d_Mod_send_106 0 rfl ?_
    refine wp_iconst (v := -1) d_Mod_send_108 (by decide) ?_
    refine wp_icmp_eq (tgt := 132) d_Mod_send_109 (by decide) (fun _ => ?_) (fun c => absurd c (by decide))
    first | rw [if_pos (Or.inl c120)] at hst1 | rw [if_pos (Or.inr c129)] at hst1 | skip
    have hst : stSend s (nI l) (nI c) = (0, 0, s) := by first | exact hst | exact hst1
    refine wp_iconst (v := nI 0) d_Mod_send_132 (by decide) ?_
    exact wp_iret d_Mod_send_133 rfl ⟨by rw [hst]; rfl, by rw [hst]; exact ⟨_, _, _, rfl, hR, rfl⟩⟩
  | some b =>
    have hbl := bIdx_lt hbo
    obtain ⟨e, he⟩ := get_of hbl.1
    have hem := List.mem_of_getElem? he
    have heb := encC_ok (hb.2 e hem)
    have hed := hb.2 e hem
    obtain ⟨re, hre0, hre1, hre2, hre3, hre4, hre5, hre6⟩ := RMs_at hR.ms (hV.cp hem).1 (hV.cp hem).2
    have hre7 := (hV.ms hre2).1
    have hre8 : prioOf s e.2.1 = re.1 := by unfold prioOf; rw [hre1]
    have hst1 := hst0
    rw [hbo] at hst1
    simp only at hst1
    refine wp_iload d_Mod_send_106 0 rfl ?_
    refine wp_iconst (v := -1) d_Mod_send_108 (by decide) ?_
    refine wp_icmp_eq (tgt := 132) d_Mod_send_109 (by decide) (fun c => absurd c (nI_m1 (by omega))) (fun _ => ?_)
    refine wp_aload_n d_Mod_send_112 rfl 1 rfl ?_
    refine wm_get d_Mod_send_113 26 (by decide) wF_Mod_75 rfl ?_
    refine wp_iload_n d_Mod_send_116 rfl 3 rfl ?_
    refine wm_ild (j := 26) (x := (nI (cKept (sCh s (2 * l + c))))) d_Mod_send_117 hI (by decide) (by decide) (by show _ < 16; omega) (by decide) (hch.2.1) ?_
    refine wp_bipush (v := nI 20) d_Mod_send_118 (by decide) ?_
    refine wp_eqN (tgt := 132) d_Mod_send_120 (by decide) (by omega) (by omega) (fun c120 => ?_) (fun c120 => ?_)
    · first | rw [if_pos (Or.inl c120)] at hst1 | rw [if_pos (Or.inr c129)] at hst1 | skip
      have hst : stSend s (nI l) (nI c) = (0, 0, s) := by first | exact hst | exact hst1
      refine wp_iconst (v := nI 0) d_Mod_send_132 (by decide) ?_
      exact wp_iret d_Mod_send_133 rfl ⟨by rw [hst]; rfl, by rw [hst]; exact ⟨_, _, _, rfl, hR, rfl⟩⟩
    · refine wp_aload_n d_Mod_send_123 rfl 1 rfl ?_
      refine wm_get d_Mod_send_124 9 (by decide) wF_Mod_29 rfl ?_
      refine wp_iload_n d_Mod_send_127 rfl 2 rfl ?_
      refine wm_zld (j := 9) (x := (bI (serves s l))) d_Mod_send_128 hI (by decide) (by decide) (by show _ < 8; omega) (by decide) ((hL l hl).2.1) ?_
      refine wp_if_neB (tgt := 134) d_Mod_send_129 (by decide) (fun c129 => ?_) (fun c129 => ?_)
      · rw [if_neg (fun q => q.elim c120 (by rw [c129]; decide))] at hst1
        have hk20 : cKept (sCh s (2 * l + c)) < 20 := by have := hcB.1; omega
        have hdb := sentC_b (x := (e.2.1, e.2.2.1)) hcB hk20 (by omega) ⟨hed.2.1, hed.2.2.1⟩
        have hRC1 := RC_sent (x := (e.2.1, e.2.2.1)) hcB hk20 hch
        have hR1 := rep_ch (Fi := (va_up Fi 0 (nI 0))) (d := sentC (sCh s (2 * l + c)) (e.2.1, e.2.2.1)) (show RepM s (va_up Fi 0 (nI 0)) M Ml from hR) (chB hV) (agr_sent hk20) (by rw [hs2]; exact hRC1)
        have hR2 := rep_goes hR1 hbl.1
        have hR3 := rep_ch (d := layKeptC (sentC (sCh s (2 * l + c)) (e.2.1, e.2.2.1)) (cKept (sCh s (2 * l + c))) (sMin s)) hR2 (fun i => va_bnd (chB hV) ⟨hdb.1, hdb.2.2.2.2.2.1⟩ i) (agr_layK (k := cKept (sCh s (2 * l + c))) (mi := sMin s) hdb.2.2.2.2.2.1) (by show RC (sLn s ((2 * l + c) / 2)).isSome _ _ _; rw [hs2]; exact RC_layKept hdb.2.2.2.2.2.1 hRC1)
        refine wp_aload_n d_Mod_send_134 rfl 1 rfl ?_
        refine wm_get d_Mod_send_135 24 (by decide) wF_Mod_69 rfl ?_
        refine wp_iload_n d_Mod_send_138 rfl 3 rfl ?_
        refine wm_ild (j := 24) (x := (nI ((cSent (sCh s (2 * l + c))).length + 1))) d_Mod_send_139 hI (by decide) (by decide) (by show _ < 16; omega) (by decide) ((hch.1 rfl).1) ?_
        refine wp_istore (lv' := [(5, .int (nI ((cSent (sCh s (2 * l + c))).length + 1))), (4, .int (nI b)), (0, .ref o), (1, .int (nI l)), (3, .int (nI (2 * l + c)))]) d_Mod_send_140 (by decide) rfl ?_
        refine wp_aload_n d_Mod_send_142 rfl 2 rfl ?_
        refine wm_get d_Mod_send_143 27 (by decide) wF_Mod_78 rfl ?_
        refine wp_bipush (v := nI 20) d_Mod_send_146 (by decide) ?_
        refine wp_iload_n d_Mod_send_148 rfl 4 rfl ?_
        refine wp_imulN d_Mod_send_149 ?_
        refine wp_aload_n d_Mod_send_150 rfl 2 rfl ?_
        refine wm_get d_Mod_send_151 26 (by decide) wF_Mod_75 rfl ?_
        refine wp_iload_n d_Mod_send_154 rfl 4 rfl ?_
        refine wm_ild (j := 26) (x := (nI (cKept (sCh s (2 * l + c))))) d_Mod_send_155 hI (by decide) (by decide) (by show _ < 16; omega) (by decide) (hch.2.1) ?_
        refine wp_iaddN d_Mod_send_156 ?_
        refine wp_aload_n d_Mod_send_157 rfl 2 rfl ?_
        refine wm_get d_Mod_send_158 23 (by decide) wF_Mod_66 rfl ?_
        refine wp_iload d_Mod_send_161 1 rfl ?_
        refine wm_ild (j := 23) (x := (nI (encC e))) d_Mod_send_163 hI (by decide) (by decide) (by show _ < 2000; omega) (by decide) (hR.cp b e he) ?_
        refine wp_bipush (v := nI 12) d_Mod_send_164 (by decide) ?_
        refine wp_ishrN d_Mod_send_166 (by omega) (by omega) ?_
        refine wp_sipush (v := nI 255) d_Mod_send_167 (by decide) ?_
        refine wp_iandM (c := 8) d_Mod_send_170 (by omega) (by decide) ?_
        refine wp_toI (z := (nI (e.2.1))) (congrArg nI heb.2.1) ?_
        refine wp_bipush (v := nI 8) d_Mod_send_171 (by decide) ?_
        refine wp_ishlN d_Mod_send_173 (by omega) (by omega) ?_
        refine wp_aload_n d_Mod_send_174 rfl 2 rfl ?_
        refine wm_get d_Mod_send_175 23 (by decide) wF_Mod_66 rfl ?_
        refine wp_iload d_Mod_send_178 1 rfl ?_
        refine wm_ild (j := 23) (x := (nI (encC e))) d_Mod_send_180 hI (by decide) (by decide) (by show _ < 2000; omega) (by decide) (hR.cp b e he) ?_
        refine wp_iconst (v := nI 4) d_Mod_send_181 (by decide) ?_
        refine wp_ishrN d_Mod_send_182 (by omega) (by omega) ?_
        refine wp_bipush (v := nI 127) d_Mod_send_183 (by decide) ?_
        refine wp_iandM (c := 7) d_Mod_send_185 (by omega) (by decide) ?_
        refine wp_toI (z := (nI (e.2.2.1))) (congrArg nI heb.2.2.1) ?_
        refine wp_iorN d_Mod_send_186 ?_
        refine wp_toI (z := (nI (e.2.1 * 2 ^ 8 + e.2.2.1))) (by rw [or_add (by omega)]) ?_
        refine wm_ist (j := 27) d_Mod_send_187 hI (by decide) (by decide) (by show _ < 320; omega) (by decide) ?_
        refine wp_aload_n d_Mod_send_188 rfl 2 rfl ?_
        refine wm_get d_Mod_send_189 26 (by decide) wF_Mod_75 rfl ?_
        refine wp_iload_n d_Mod_send_192 rfl 4 rfl ?_
        refine wp_dup2 d_Mod_send_193 rfl rfl ?_
        refine wm_ild (j := 26) (x := (nI (cKept (sCh s (2 * l + c))))) d_Mod_send_194 hI (by decide) (by decide) (by show _ < 16; omega) (by decide) (by rw [u2_ne _ _ (by decide)]; exact hch.2.1) ?_
        refine wp_iconst (v := nI 1) d_Mod_send_195 (by decide) ?_
        refine wp_iaddN d_Mod_send_196 ?_
        refine wm_ist (j := 26) d_Mod_send_197 hI (by decide) (by decide) (by show _ < 16; omega) (by decide) ?_
        refine wp_aload_n d_Mod_send_198 rfl 2 rfl ?_
        refine wm_get d_Mod_send_199 24 (by decide) wF_Mod_69 rfl ?_
        refine wp_iload_n d_Mod_send_202 rfl 4 rfl ?_
        refine wp_iload d_Mod_send_203 0 rfl ?_
        refine wp_callV (r := 2) d_Mod_send_205 (link_S (av := [.int (nI ((cSent (sCh s (2 * l + c))).length + 1))]) (rest := [.int (nI (2 * l + c)), .ref (A 24)]) d_Mod_send_205 cal_Mod_behind wM_Mod_233 rfl) cal_Mod_behind (c_Mod_behind (by omega)) (Nat.le_of_ble_eq_true rfl) ⟨Nat.le_of_ble_eq_true rfl, Nat.le_of_ble_eq_true rfl⟩ ?_
        refine wp_toI (z := (nI ((cSent (sCh s (2 * l + c))).length + 1 + 1))) (congrArg nI (by omega)) ?_
        refine wm_ist (j := 24) d_Mod_send_208 hI (by decide) (by decide) (by show _ < 16; omega) (by decide) ?_
        refine wp_aload_n d_Mod_send_209 rfl 2 rfl ?_
        refine wp_iload d_Mod_send_210 1 rfl ?_
        refine wp_callU (r := 0) d_Mod_send_212 (link_V (as := [.int (nI b)]) (rest := []) (r := (R_Mod, T_Mod, 43)) d_Mod_send_212 cal_Mod_goes wM_Mod_219 rfl hM_o rfl) cal_Mod_goes (c_Mod_goes hI hR.fi.2.2.2 hlen hbl.1) (Nat.le_of_ble_eq_true rfl) ⟨Nat.le_of_ble_eq_true rfl, Nat.le_of_ble_eq_true rfl⟩ ?_
        refine wp_aload_n d_Mod_send_215 rfl 2 rfl ?_
        refine wp_iload_n d_Mod_send_216 rfl 4 rfl ?_
        refine wp_aload_n d_Mod_send_217 rfl 2 rfl ?_
        refine wm_get d_Mod_send_218 26 (by decide) wF_Mod_75 rfl ?_
        refine wp_iload_n d_Mod_send_221 rfl 4 rfl ?_
        refine wm_ild (j := 26) (x := ((shL (u2 (u2 (u2 M 27 ((20 * (2 * l + c)) + (cKept (sCh s (2 * l + c)))) (nI (e.2.1 * 2 ^ 8 + e.2.2.1))) 26 (2 * l + c) (nI ((cKept (sCh s (2 * l + c))) + 1))) 24 (2 * l + c) (nI ((cSent (sCh s (2 * l + c))).length + 1 + 1))) 23 b ((sCp s).length - 1)) 26 (2 * l + c))) d_Mod_send_222 hI (by decide) (by decide) (by show _ < 16; omega) (by decide) rfl ?_
        refine wp_iconst (v := nI 1) d_Mod_send_223 (by decide) ?_
        refine wp_isub d_Mod_send_224 ?_
        refine wp_toI (z := (nI (cKept (sCh s (2 * l + c))))) (by rw [shL_ne _ (by decide), u2_ne _ _ (by decide), u2_at, if_pos rfl]; exact nI_m _) ?_
        refine wp_callU (r := 0) d_Mod_send_225 (link_V (as := [.int (nI (2 * l + c)), .int (nI (cKept (sCh s (2 * l + c))))]) (rest := []) (r := (R_Mod, T_Mod, 43)) d_Mod_send_225 cal_Mod_layKept wM_Mod_236 rfl hM_o rfl) cal_Mod_layKept (c_Mod_layKeptS (d := sentC (sCh s (2 * l + c)) (e.2.1, e.2.2.1)) (mi := sMin s) hI (by omega) hdb hRC1 (by show cKept (sCh s (2 * l + c)) < cKept (sCh s (2 * l + c)) + 1; omega) hR.fi.1) (Nat.le_of_ble_eq_true rfl) ⟨Nat.le_of_ble_eq_true rfl, Nat.le_of_ble_eq_true rfl⟩ ?_
        refine wp_iload d_Mod_send_228 0 rfl ?_
        exact wp_iret d_Mod_send_230 rfl ⟨by rw [hst1], by rw [hst1]; exact ⟨_, _, Ml, rfl, by rw [send_eq he]; exact hR3, rfl⟩⟩
      · first | rw [if_pos (Or.inl c120)] at hst1 | rw [if_pos (Or.inr c129)] at hst1 | skip
        have hst : stSend s (nI l) (nI c) = (0, 0, s) := by first | exact hst | exact hst1
        refine wp_iconst (v := nI 0) d_Mod_send_132 (by decide) ?_
        exact wp_iret d_Mod_send_133 rfl ⟨by rw [hst]; rfl, by rw [hst]; exact ⟨_, _, _, rfl, hR, rfl⟩⟩
theorem c_Mod_send {G : Gt} {o : Nat} {A : Nat → Nat} {Fi : Nat → Int32} {M : Nat → Nat → Int32} {Ml : Nat → Nat → Int64} {s : Sa} {n : Nat} (hI : mInj o A) (hR : RepM s Fi M Ml) (hV : Inv n s) (hn : n < 512) (x z : Int32) : CallE G m_Mod_send 3 42 [.ref o, .int x, .int z] (hM o A Fi M Ml) 0 0 (some (.int (stSend s x z).2.1)) (RefOK o A (stSend s x z)) := by
  cases hx : chOK s x z with
  | false =>
    rw [show stSend s x z = (1, 0, s) by unfold stSend; rw [hx]; rfl]
    exact CallR.E (CallR.up (c_Mod_send0 hI hR.ln hx) (by decide) (by decide)) ⟨_, _, _, rfl, hR, rfl⟩
  | true =>
    obtain ⟨l, c, hl, hc, rfl, rfl, hs⟩ := chOK_of hx
    exact c_Mod_send1 hI hR hV hn hl hc hx hs
end Mod28
