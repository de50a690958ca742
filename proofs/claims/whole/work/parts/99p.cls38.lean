section Cls38
theorem Dj.symm {h f : AHp} (hD : Dj h f) : Dj f h := fun q hq => Classical.byContradiction fun z => hq (hD q z)
theorem hor_comm {h f : AHp} (hD : Dj h f) : hor h f = hor f h := by
  funext q
  cases hq : h q with
  | none => cases hf : f q with
    | none => rw [hor_r hq, hor_r hf, hq, hf]
    | some o => rw [hor_r hq, hor_l hf, hf]
  | some o => rw [hor_l hq, hor_r (hD q (by rw [hq]; simp)), hq]
/-- the law's own array of one long -/
def hO (out : Nat) (v : Nat → Int64) : AHp := hs1 out (.inl (1, 1, .inr (.inl v)))
theorem hO_z {hc : AHp} {out : Nat} {v : Nat → Int64} (hD : Dj hc (hO out v)) : hc out = none := Classical.byContradiction fun z => by have h := hD out z; rw [hO, hs1_a] at h; cases h
theorem hO_at {hc : AHp} {out : Nat} {v : Nat → Int64} (hD : Dj hc (hO out v)) : hor hc (hO out v) out = some (.inl (1, 1, .inr (.inl v))) := by rw [hor_r (hO_z hD)]; exact hs1_a
theorem hO_put {hc : AHp} {out : Nat} {v v' : Nat → Int64} (hD : Dj hc (hO out v)) : hup (hor hc (hO out v)) out (.inl (1, 1, .inr (.inl v'))) = hor hc (hO out v') := by
  funext q
  by_cases hq : q = out
  · subst hq
    rw [hup_eq, hor_r (hO_z hD)]
    exact hs1_a.symm
  · rw [hup_ne hq]
    cases hh : hc q with
    | none =>
      rw [hor_r hh, hor_r hh]
      show hs1 _ _ q = hs1 _ _ q
      rw [hs1_o hq, hs1_o hq]
    | some o => rw [hor_l hh, hor_l hh]
theorem hO_dj {hc : AHp} {out : Nat} {v v' : Nat → Int64} (hD : Dj hc (hO out v)) : Dj hc (hO out v') := fun q hq => by
  have h := hD q hq
  have hn : q ≠ out := fun e => by rw [e, hO, hs1_a] at h; cases h
  exact hs1_o hn
theorem resC_l {a : Ans} {vd : Bool} {v : Option Value} (h : (.inl v : ARes) = resC a vd) : a.1 = 0 ∧ v = if vd then none else some (.int a.2.1) := by
  unfold resC at h
  split at h
  · rename_i h0
    exact ⟨h0, by cases h; rfl⟩
  · cases h
theorem resC_r {a : Ans} {vd : Bool} {x : Nat} (h : (.inr x : ARes) = resC a vd) : a.1 = x + 1 := by
  unfold resC at h
  split at h
  · cases h
  · rename_i c hc
    cases h
    exact hc
/-- how a helper of the law ends -/
def LQ (o out : Nat) (a : Ans) (P : (Nat → Int64) → Prop) : ARes → AHp → Prop := fun r h' => ∃ hc' v', r = .inl (some (.int (nI a.1))) ∧ h' = hor hc' (hO out v') ∧ Dj hc' (hO out v') ∧ NetOK o a.2.2 hc' ∧ (a.1 = 0 → P v')
theorem vp_in0 : vp_in (nI 0) 1 := by show ¬ (nI 0 < 0 ∨ 1 ≤ (nI 0).toNatClampNeg); decide
theorem swI {s : Sa} {x : Int32} {p : Sa → Ans} {q : Sa → Ans} (b : Bool) (hp : (p s).1 ≤ 1) (hq : (q s).1 ≤ 1) : (if b then p s else q s).1 ≤ 1 := by cases b <;> assumption
theorem cd_line (s : Sa) (z : Int32) (x : Int32) (y : Int32) : (stLine s z x y).1 ≤ 1 := by
  unfold stLine; split <;> exact Nat.le_of_ble_eq_true rfl
theorem cd_put (s : Sa) (i : Int32) (w : Int32) : (stPut s i w).1 ≤ 1 := by
  unfold stPut; split <;> exact Nat.le_of_ble_eq_true rfl
theorem cd_send (s : Sa) (l : Int32) (c : Int32) : (stSend s l c).1 ≤ 1 := by
  unfold stSend; repeat' split
  all_goals exact Nat.le_of_ble_eq_true rfl
theorem cd_carry (s : Sa) (l : Int32) (c : Int32) : (stCarry s l c).1 ≤ 1 := by
  unfold stCarry; repeat' split
  all_goals exact Nat.le_of_ble_eq_true rfl
theorem cd_disturb (s : Sa) (l : Int32) (c : Int32) (w : Int32) : (stDisturb s l c w).1 ≤ 1 := by
  unfold stDisturb; repeat' split
  all_goals exact Nat.le_of_ble_eq_true rfl
theorem cd_serve (s : Sa) (l : Int32) (w : Bool) : (stServe s l w).1 ≤ 1 := by
  unfold stServe; repeat' split
  all_goals exact Nat.le_of_ble_eq_true rfl
theorem cd_time (s : Sa) (t : Int32) : (stTime s t).1 ≤ 1 := by
  unfold stTime; repeat' split
  all_goals exact Nat.le_of_ble_eq_true rfl
theorem cd_delivered (s : Sa) (x : Int32) : (stDelivered s x).1 ≤ 1 := by
  unfold stDelivered; repeat' split
  all_goals exact Nat.le_of_ble_eq_true rfl
theorem cd_read (s : Sa) (x : Int32) (k : Int32) (i : Int32) : (stRead s x k i).1 ≤ 1 := by
  unfold stRead; repeat' split
  all_goals exact Nat.le_of_ble_eq_true rfl
theorem cd_arrived (s : Sa) (m : Int32) (k : Int32) : (stArrived s m k).1 ≤ 1 := by
  unfold stArrived; repeat' split
  all_goals exact Nat.le_of_ble_eq_true rfl
theorem cd_channel (s : Sa) (l : Int32) (c : Int32) (w : Int32) : (stChannel s l c w).1 ≤ 1 := by
  unfold stChannel; repeat' split
  all_goals exact Nat.le_of_ble_eq_true rfl
theorem cd_count (s : Sa) (x : Int32) (w : Int32) : (stCount s x w).1 ≤ 1 := by
  unfold stCount; repeat' split
  all_goals exact Nat.le_of_ble_eq_true rfl
set_option maxRecDepth 20000 in
theorem l_line {G : Gt}  {hc : AHp} {s : Sa} {o out : Nat} {v : Nat → Int64} {n0 : Nat} (ok0 : NetOK o s hc) (hV : Inv n0 s) (hD : Dj hc (hO out v)) (z : Int32) (x : Int32) (y : Int32) : CallS G m_Law_line 8 112 [.ref o, .int z, .int x, .int y] (hor hc (hO out v)) (0 + 23) (0 + 520) (LQ o out (stLine s z x y) (fun _ => True)) := by
  obtain ⟨Γ, ρ, K, N, I, R, L, E, El, Er, rfl, hR, rfl⟩ := ok0
  refine CallS.of (Nat.le_of_ble_eq_true rfl) ?_
  refine wp_aload_n d_Law_line_0 rfl 0 rfl ?_
  refine wp_iload_n d_Law_line_1 rfl 1 rfl ?_
  refine wp_iload_n d_Law_line_2 rfl 2 rfl ?_
  refine wp_iload_n d_Law_line_3 rfl 3 rfl ?_
  refine wp_callH (k := 0) (n := 0) (k' := 23) (n' := 520) (r := 0) d_Law_line_4 (link_V (as := [.int z, .int x, .int y]) (rest := []) (r := (R_Net, T_Net, 7)) d_Law_line_4 cal_Net_line wM_Law_7 rfl (hor_l (hN_o hR.nt.1 (by decide))) rfl) cal_Net_line (CallS.frame (n_Net_line hR hV z x y) hD) (Nat.le_of_ble_eq_true rfl) ⟨Nat.le_of_ble_eq_true rfl, Nat.le_of_ble_eq_true rfl⟩ (fun v1 h1 q1 => ?_) (fun x1 h1 q1 => ?_)
  · obtain ⟨hc', ⟨e1, ok⟩, rfl, hD'⟩ := q1
    obtain ⟨h0, rfl⟩ := resC_l e1
    show WP G m_Law_line _ 7 _ ([]) _ _ _
    refine wp_goto (tgt := 14) d_Law_line_7 (by decide) ?_
    refine wp_iconst (v := nI 0) d_Law_line_14 (by decide) ?_
    exact wp_iret d_Law_line_15 rfl ⟨hc', _, by rw [h0], rfl, hD', ok, fun _ => trivial⟩
  · obtain ⟨hc', ⟨e1, ok⟩, rfl, hD'⟩ := q1
    have hx1 := resC_r e1
    have hle := cd_line s z x y
    obtain rfl : x1 = 0 := by omega
    refine ⟨10, ⟨[], 0, 7, 13, [], _, rfl, ⟨by decide, by decide⟩, by decide, wH_Law_13, cst_0, fun z hz => by cases hz⟩, fun a1 => ?_⟩
    refine wp_astore (lv' := [(4, .ref a1), (0, .ref (Γ 0 0)), (1, .int z), (2, .int x), (3, .int y)]) d_Law_line_10 (by decide) rfl ?_
    refine wp_iconst (v := nI 1) d_Law_line_12 (by decide) ?_
    exact wp_iret d_Law_line_13 rfl ⟨hc', v, by rw [hx1], rfl, hD', ok, fun z => absurd z (by rw [hx1]; decide)⟩
theorem cd_route (s : Sa) (x : Int32) (one : Int32) (two : Int32) (ln : Int32) (mn : Int32) (ot : Int32) : (stRoute s x one two ln mn ot).1 ≤ 2 := by
  unfold stRoute; repeat' split
  all_goals exact Nat.le_of_ble_eq_true rfl
set_option maxRecDepth 20000 in
theorem l_route {G : Gt}  {hc : AHp} {s : Sa} {o out : Nat} {v : Nat → Int64} {n0 : Nat} (ok0 : NetOK o s hc) (hV : Inv n0 s) (hD : Dj hc (hO out v)) (x : Int32) (one : Int32) (two : Int32) (ln : Int32) (mn : Int32) (ot : Int32) : CallS G m_Law_route 8 116 [.ref o, .int x, .int one, .int two, .int ln, .int mn, .int ot] (hor hc (hO out v)) (0 + 1) (0 + 6) (LQ o out (stRoute s x one two ln mn ot) (fun _ => True)) := by
  obtain ⟨Γ, ρ, K, N, I, R, L, E, El, Er, rfl, hR, rfl⟩ := ok0
  refine CallS.of (Nat.le_of_ble_eq_true rfl) ?_
  refine wp_aload_n d_Law_route_0 rfl 0 rfl ?_
  refine wp_iload_n d_Law_route_1 rfl 1 rfl ?_
  refine wp_iload_n d_Law_route_2 rfl 2 rfl ?_
  refine wp_iload_n d_Law_route_3 rfl 3 rfl ?_
  refine wp_iload d_Law_route_4 4 rfl ?_
  refine wp_iload d_Law_route_6 5 rfl ?_
  refine wp_iload d_Law_route_8 6 rfl ?_
  refine wp_callH (k := 0) (n := 0) (k' := 1) (n' := 6) (r := 0) d_Law_route_10 (link_V (as := [.int x, .int one, .int two, .int ln, .int mn, .int ot]) (rest := []) (r := (R_Net, T_Net, 7)) d_Law_route_10 cal_Net_route wM_Law_15 rfl (hor_l (hN_o hR.nt.1 (by decide))) rfl) cal_Net_route (CallS.frame (n_Net_route hR hV x one two ln mn ot) hD) (Nat.le_of_ble_eq_true rfl) ⟨Nat.le_of_ble_eq_true rfl, Nat.le_of_ble_eq_true rfl⟩ (fun v1 h1 q1 => ?_) (fun x1 h1 q1 => ?_)
  · obtain ⟨hc', ⟨e1, ok⟩, rfl, hD'⟩ := q1
    obtain ⟨h0, rfl⟩ := resC_l e1
    show WP G m_Law_route _ 13 _ ([]) _ _ _
    refine wp_goto (tgt := 24) d_Law_route_13 (by decide) ?_
    refine wp_iconst (v := nI 0) d_Law_route_24 (by decide) ?_
    exact wp_iret d_Law_route_25 rfl ⟨hc', _, by rw [h0], rfl, hD', ok, fun _ => trivial⟩
  · obtain ⟨hc', ⟨e1, ok⟩, rfl, hD'⟩ := q1
    have hx1 := resC_r e1
    have hle := cd_route s x one two ln mn ot
    rcases (show x1 = 0 ∨ x1 = 1 by omega) with rfl | rfl
    · refine ⟨16, ⟨[], 0, 13, 13, [(0, 13, 20, 19)], _, rfl, ⟨by decide, by decide⟩, by decide, wH_Law_13, cst_0, fun z hz => by cases hz⟩, fun a1 => ?_⟩
      refine wp_astore (lv' := [(7, .ref a1), (0, .ref (Γ 0 0)), (1, .int x), (2, .int one), (3, .int two), (4, .int ln), (5, .int mn), (6, .int ot)]) d_Law_route_16 (by decide) rfl ?_
      refine wp_iconst (v := nI 1) d_Law_route_18 (by decide) ?_
      exact wp_iret d_Law_route_19 rfl ⟨hc', v, by rw [hx1], rfl, hD', ok, fun z => absurd z (by rw [hx1]; decide)⟩
    · refine ⟨20, ⟨[(0, 13, 16, 13)], 0, 13, 19, [], _, rfl, ⟨by decide, by decide⟩, by decide, wH_Law_19, cst_1, fun z hz => by rw [List.mem_singleton.mp hz]; exact ⟨rfl, by decide, wH_Law_13⟩⟩, fun a1 => ?_⟩
      refine wp_astore (lv' := [(7, .ref a1), (0, .ref (Γ 0 0)), (1, .int x), (2, .int one), (3, .int two), (4, .int ln), (5, .int mn), (6, .int ot)]) d_Law_route_20 (by decide) rfl ?_
      refine wp_iconst (v := nI 2) d_Law_route_22 (by decide) ?_
      exact wp_iret d_Law_route_23 rfl ⟨hc', v, by rw [hx1], rfl, hD', ok, fun z => absurd z (by rw [hx1]; decide)⟩
set_option maxRecDepth 20000 in
theorem l_put {G : Gt}  {hc : AHp} {s : Sa} {o out : Nat} {v : Nat → Int64} {n0 : Nat} (ok0 : NetOK o s hc) (hV : Inv n0 s) (hD : Dj hc (hO out v)) (i : Int32) (w : Int32) : CallS G m_Law_put 7 96 [.ref o, .int i, .int w] (hor hc (hO out v)) (0 + 1) (0 + 6) (LQ o out (stPut s i w) (fun _ => True)) := by
  obtain ⟨Γ, ρ, K, N, I, R, L, E, El, Er, rfl, hR, rfl⟩ := ok0
  refine CallS.of (Nat.le_of_ble_eq_true rfl) ?_
  refine wp_aload_n d_Law_put_0 rfl 0 rfl ?_
  refine wp_iload_n d_Law_put_1 rfl 1 rfl ?_
  refine wp_iload_n d_Law_put_2 rfl 2 rfl ?_
  refine wp_callH (k := 0) (n := 0) (k' := 1) (n' := 6) (r := 0) d_Law_put_3 (link_V (as := [.int i, .int w]) (rest := []) (r := (R_Net, T_Net, 7)) d_Law_put_3 cal_Net_put wM_Law_21 rfl (hor_l (hN_o hR.nt.1 (by decide))) rfl) cal_Net_put (CallS.frame (n_Net_put hR hV i w) hD) (Nat.le_of_ble_eq_true rfl) ⟨Nat.le_of_ble_eq_true rfl, Nat.le_of_ble_eq_true rfl⟩ (fun v1 h1 q1 => ?_) (fun x1 h1 q1 => ?_)
  · obtain ⟨hc', ⟨e1, ok⟩, rfl, hD'⟩ := q1
    obtain ⟨h0, rfl⟩ := resC_l e1
    show WP G m_Law_put _ 6 _ ([]) _ _ _
    refine wp_goto (tgt := 12) d_Law_put_6 (by decide) ?_
    refine wp_iconst (v := nI 0) d_Law_put_12 (by decide) ?_
    exact wp_iret d_Law_put_13 rfl ⟨hc', _, by rw [h0], rfl, hD', ok, fun _ => trivial⟩
  · obtain ⟨hc', ⟨e1, ok⟩, rfl, hD'⟩ := q1
    have hx1 := resC_r e1
    have hle := cd_put s i w
    obtain rfl : x1 = 0 := by omega
    refine ⟨9, ⟨[], 0, 6, 13, [], _, rfl, ⟨by decide, by decide⟩, by decide, wH_Law_13, cst_0, fun z hz => by cases hz⟩, fun a1 => ?_⟩
    refine wp_astore_n (lv' := [(3, .ref a1), (0, .ref (Γ 0 0)), (1, .int i), (2, .int w)]) d_Law_put_9 rfl (by decide) rfl ?_
    refine wp_iconst (v := nI 1) d_Law_put_10 (by decide) ?_
    exact wp_iret d_Law_put_11 rfl ⟨hc', v, by rw [hx1], rfl, hD', ok, fun z => absurd z (by rw [hx1]; decide)⟩
theorem cd_file (s : Sa) (x : Int32) (z : Int32) : (stFile s x z).1 ≤ 2 := by
  unfold stFile; repeat' split
  all_goals exact Nat.le_of_ble_eq_true rfl
set_option maxRecDepth 20000 in
theorem l_file {G : Gt}  (hS : jOK G) {hc : AHp} {s : Sa} {o out : Nat} {v : Nat → Int64} {n0 : Nat} (ok0 : NetOK o s hc) (hV : Inv n0 s) (hD : Dj hc (hO out v)) (x : Int32) (z : Int32) : CallS G m_Law_file 9 127 [.ref o, .int x, .int z, .ref out] (hor hc (hO out v)) (0 + 10) (0 + 1640) (LQ o out (stFile s x z) (fun v1 => v1 0 = (stFile s x z).2.1.toInt64)) := by
  obtain ⟨Γ, ρ, K, N, I, R, L, E, El, Er, rfl, hR, rfl⟩ := ok0
  refine CallS.of (Nat.le_of_ble_eq_true rfl) ?_
  refine wp_aload_n d_Law_file_0 rfl 3 rfl ?_
  refine wp_iconst (v := nI 0) d_Law_file_1 (by decide) ?_
  refine wp_aload_n d_Law_file_2 rfl 0 rfl ?_
  refine wp_iload_n d_Law_file_3 rfl 1 rfl ?_
  refine wp_iload_n d_Law_file_4 rfl 2 rfl ?_
  refine wp_callH (k := 0) (n := 0) (k' := 10) (n' := 1640) (r := 2) d_Law_file_5 (link_V (as := [.int x, .int z]) (rest := [.int (nI 0), .ref out]) (r := (R_Net, T_Net, 7)) d_Law_file_5 cal_Net_file wM_Law_25 rfl (hor_l (hN_o hR.nt.1 (by decide))) rfl) cal_Net_file (CallS.frame (n_Net_file hR hS hV x z) hD) (Nat.le_of_ble_eq_true rfl) ⟨Nat.le_of_ble_eq_true rfl, Nat.le_of_ble_eq_true rfl⟩ (fun v1 h1 q1 => ?_) (fun x1 h1 q1 => ?_)
  · obtain ⟨hc', ⟨e1, ok⟩, rfl, hD'⟩ := q1
    obtain ⟨h0, rfl⟩ := resC_l e1
    show WP G m_Law_file _ 8 _ (.int (stFile s x z).2.1 :: [.int (nI 0), .ref out]) _ _ _
    refine wp_i2l d_Law_file_8 rfl ?_
    refine wp_last (t := 1) (N := 1) (f := v) d_Law_file_9 (hO_at hD') rfl vp_in0 ?_
    rw [hO_put hD']
    refine wp_goto (tgt := 21) d_Law_file_10 (by decide) ?_
    refine wp_iconst (v := nI 0) d_Law_file_21 (by decide) ?_
    exact wp_iret d_Law_file_22 rfl ⟨hc', _, by rw [h0], rfl, hO_dj hD', ok, fun _ => by show vp_updL v (nI 0).toNatClampNeg _ 0 = _; rfl⟩
  · obtain ⟨hc', ⟨e1, ok⟩, rfl, hD'⟩ := q1
    have hx1 := resC_r e1
    have hle := cd_file s x z
    rcases (show x1 = 0 ∨ x1 = 1 by omega) with rfl | rfl
    · refine ⟨13, ⟨[], 0, 10, 13, [(0, 10, 17, 19)], _, rfl, ⟨by decide, by decide⟩, by decide, wH_Law_13, cst_0, fun z hz => by cases hz⟩, fun a1 => ?_⟩
      refine wp_astore (lv' := [(4, .ref a1), (0, .ref (Γ 0 0)), (1, .int x), (2, .int z), (3, .ref out)]) d_Law_file_13 (by decide) rfl ?_
      refine wp_iconst (v := nI 1) d_Law_file_15 (by decide) ?_
      exact wp_iret d_Law_file_16 rfl ⟨hc', v, by rw [hx1], rfl, hD', ok, fun z => absurd z (by rw [hx1]; decide)⟩
    · refine ⟨17, ⟨[(0, 10, 13, 13)], 0, 10, 19, [], _, rfl, ⟨by decide, by decide⟩, by decide, wH_Law_19, cst_1, fun z hz => by rw [List.mem_singleton.mp hz]; exact ⟨rfl, by decide, wH_Law_13⟩⟩, fun a1 => ?_⟩
      refine wp_astore (lv' := [(4, .ref a1), (0, .ref (Γ 0 0)), (1, .int x), (2, .int z), (3, .ref out)]) d_Law_file_17 (by decide) rfl ?_
      refine wp_iconst (v := nI 2) d_Law_file_19 (by decide) ?_
      exact wp_iret d_Law_file_20 rfl ⟨hc', v, by rw [hx1], rfl, hD', ok, fun z => absurd z (by rw [hx1]; decide)⟩
set_option maxRecDepth 20000 in
theorem l_send {G : Gt}  {hc : AHp} {s : Sa} {o out : Nat} {v : Nat → Int64} {n0 : Nat} (ok0 : NetOK o s hc) (hV : Inv n0 s) (hD : Dj hc (hO out v)) (l : Int32) (c : Int32) : CallS G m_Law_send 8 113 [.ref o, .int l, .int c, .ref out] (hor hc (hO out v)) (0 + 1) (0 + 6) (LQ o out (stSend s l c) (fun v1 => v1 0 = (stSend s l c).2.1.toInt64)) := by
  obtain ⟨Γ, ρ, K, N, I, R, L, E, El, Er, rfl, hR, rfl⟩ := ok0
  refine CallS.of (Nat.le_of_ble_eq_true rfl) ?_
  refine wp_aload_n d_Law_send_0 rfl 3 rfl ?_
  refine wp_iconst (v := nI 0) d_Law_send_1 (by decide) ?_
  refine wp_aload_n d_Law_send_2 rfl 0 rfl ?_
  refine wp_iload_n d_Law_send_3 rfl 1 rfl ?_
  refine wp_iload_n d_Law_send_4 rfl 2 rfl ?_
  refine wp_callH (k := 0) (n := 0) (k' := 1) (n' := 6) (r := 2) d_Law_send_5 (link_V (as := [.int l, .int c]) (rest := [.int (nI 0), .ref out]) (r := (R_Net, T_Net, 7)) d_Law_send_5 cal_Net_send wM_Law_29 rfl (hor_l (hN_o hR.nt.1 (by decide))) rfl) cal_Net_send (CallS.frame (n_Net_send hR hV l c) hD) (Nat.le_of_ble_eq_true rfl) ⟨Nat.le_of_ble_eq_true rfl, Nat.le_of_ble_eq_true rfl⟩ (fun v1 h1 q1 => ?_) (fun x1 h1 q1 => ?_)
  · obtain ⟨hc', ⟨e1, ok⟩, rfl, hD'⟩ := q1
    obtain ⟨h0, rfl⟩ := resC_l e1
    show WP G m_Law_send _ 8 _ (.int (stSend s l c).2.1 :: [.int (nI 0), .ref out]) _ _ _
    refine wp_i2l d_Law_send_8 rfl ?_
    refine wp_last (t := 1) (N := 1) (f := v) d_Law_send_9 (hO_at hD') rfl vp_in0 ?_
    rw [hO_put hD']
    refine wp_goto (tgt := 17) d_Law_send_10 (by decide) ?_
    refine wp_iconst (v := nI 0) d_Law_send_17 (by decide) ?_
    exact wp_iret d_Law_send_18 rfl ⟨hc', _, by rw [h0], rfl, hO_dj hD', ok, fun _ => by show vp_updL v (nI 0).toNatClampNeg _ 0 = _; rfl⟩
  · obtain ⟨hc', ⟨e1, ok⟩, rfl, hD'⟩ := q1
    have hx1 := resC_r e1
    have hle := cd_send s l c
    obtain rfl : x1 = 0 := by omega
    refine ⟨13, ⟨[], 0, 10, 13, [], _, rfl, ⟨by decide, by decide⟩, by decide, wH_Law_13, cst_0, fun z hz => by cases hz⟩, fun a1 => ?_⟩
    refine wp_astore (lv' := [(4, .ref a1), (0, .ref (Γ 0 0)), (1, .int l), (2, .int c), (3, .ref out)]) d_Law_send_13 (by decide) rfl ?_
    refine wp_iconst (v := nI 1) d_Law_send_15 (by decide) ?_
    exact wp_iret d_Law_send_16 rfl ⟨hc', v, by rw [hx1], rfl, hD', ok, fun z => absurd z (by rw [hx1]; decide)⟩
set_option maxRecDepth 20000 in
theorem l_carry {G : Gt}  {hc : AHp} {s : Sa} {o out : Nat} {v : Nat → Int64} {n0 : Nat} (ok0 : NetOK o s hc) (hV : Inv n0 s) (hD : Dj hc (hO out v)) (l : Int32) (c : Int32) : CallS G m_Law_carry 9 135 [.ref o, .int l, .int c, .ref out] (hor hc (hO out v)) (0 + 8) (0 + 31) (LQ o out (stCarry s l c) (fun v1 => v1 0 = (stCarry s l c).2.1.toInt64)) := by
  obtain ⟨Γ, ρ, K, N, I, R, L, E, El, Er, rfl, hR, rfl⟩ := ok0
  refine CallS.of (Nat.le_of_ble_eq_true rfl) ?_
  refine wp_aload_n d_Law_carry_0 rfl 3 rfl ?_
  refine wp_iconst (v := nI 0) d_Law_carry_1 (by decide) ?_
  refine wp_aload_n d_Law_carry_2 rfl 0 rfl ?_
  refine wp_iload_n d_Law_carry_3 rfl 1 rfl ?_
  refine wp_iload_n d_Law_carry_4 rfl 2 rfl ?_
  refine wp_callH (k := 0) (n := 0) (k' := 8) (n' := 31) (r := 2) d_Law_carry_5 (link_V (as := [.int l, .int c]) (rest := [.int (nI 0), .ref out]) (r := (R_Net, T_Net, 7)) d_Law_carry_5 cal_Net_carry wM_Law_32 rfl (hor_l (hN_o hR.nt.1 (by decide))) rfl) cal_Net_carry (CallS.frame (n_Net_carry hR hV l c) hD) (Nat.le_of_ble_eq_true rfl) ⟨Nat.le_of_ble_eq_true rfl, Nat.le_of_ble_eq_true rfl⟩ (fun v1 h1 q1 => ?_) (fun x1 h1 q1 => ?_)
  · obtain ⟨hc', ⟨e1, ok⟩, rfl, hD'⟩ := q1
    obtain ⟨h0, rfl⟩ := resC_l e1
    show WP G m_Law_carry _ 8 _ (.int (stCarry s l c).2.1 :: [.int (nI 0), .ref out]) _ _ _
    refine wp_i2l d_Law_carry_8 rfl ?_
    refine wp_last (t := 1) (N := 1) (f := v) d_Law_carry_9 (hO_at hD') rfl vp_in0 ?_
    rw [hO_put hD']
    refine wp_goto (tgt := 17) d_Law_carry_10 (by decide) ?_
    refine wp_iconst (v := nI 0) d_Law_carry_17 (by decide) ?_
    exact wp_iret d_Law_carry_18 rfl ⟨hc', _, by rw [h0], rfl, hO_dj hD', ok, fun _ => by show vp_updL v (nI 0).toNatClampNeg _ 0 = _; rfl⟩
  · obtain ⟨hc', ⟨e1, ok⟩, rfl, hD'⟩ := q1
    have hx1 := resC_r e1
    have hle := cd_carry s l c
    obtain rfl : x1 = 0 := by omega
    refine ⟨13, ⟨[], 0, 10, 13, [], _, rfl, ⟨by decide, by decide⟩, by decide, wH_Law_13, cst_0, fun z hz => by cases hz⟩, fun a1 => ?_⟩
    refine wp_astore (lv' := [(4, .ref a1), (0, .ref (Γ 0 0)), (1, .int l), (2, .int c), (3, .ref out)]) d_Law_carry_13 (by decide) rfl ?_
    refine wp_iconst (v := nI 1) d_Law_carry_15 (by decide) ?_
    exact wp_iret d_Law_carry_16 rfl ⟨hc', v, by rw [hx1], rfl, hD', ok, fun z => absurd z (by rw [hx1]; decide)⟩
set_option maxRecDepth 20000 in
theorem l_disturb {G : Gt}  {hc : AHp} {s : Sa} {o out : Nat} {v : Nat → Int64} {n0 : Nat} (ok0 : NetOK o s hc) (hV : Inv n0 s) (hD : Dj hc (hO out v)) (l : Int32) (c : Int32) (w : Int32) : CallS G m_Law_disturb 8 113 [.ref o, .int l, .int c, .int w, .ref out] (hor hc (hO out v)) (0 + 1) (0 + 6) (LQ o out (stDisturb s l c w) (fun v1 => v1 0 = if (stDisturb s l c w).2.1 = 0 then 0 else 1)) := by
  obtain ⟨Γ, ρ, K, N, I, R, L, E, El, Er, rfl, hR, rfl⟩ := ok0
  refine CallS.of (Nat.le_of_ble_eq_true rfl) ?_
  refine wp_aload d_Law_disturb_0 4 rfl ?_
  refine wp_iconst (v := nI 0) d_Law_disturb_2 (by decide) ?_
  refine wp_aload_n d_Law_disturb_3 rfl 0 rfl ?_
  refine wp_iload_n d_Law_disturb_4 rfl 1 rfl ?_
  refine wp_iload_n d_Law_disturb_5 rfl 2 rfl ?_
  refine wp_iload_n d_Law_disturb_6 rfl 3 rfl ?_
  refine wp_callH (k := 0) (n := 0) (k' := 1) (n' := 6) (r := 2) d_Law_disturb_7 (link_V (as := [.int l, .int c, .int w]) (rest := [.int (nI 0), .ref out]) (r := (R_Net, T_Net, 7)) d_Law_disturb_7 cal_Net_disturb wM_Law_35 rfl (hor_l (hN_o hR.nt.1 (by decide))) rfl) cal_Net_disturb (CallS.frame (n_Net_disturb hR hV l c w) hD) (Nat.le_of_ble_eq_true rfl) ⟨Nat.le_of_ble_eq_true rfl, Nat.le_of_ble_eq_true rfl⟩ (fun v1 h1 q1 => ?_) (fun x1 h1 q1 => ?_)
  · obtain ⟨hc', ⟨e1, ok⟩, rfl, hD'⟩ := q1
    obtain ⟨h0, rfl⟩ := resC_l e1
    show WP G m_Law_disturb _ 10 _ (.int (stDisturb s l c w).2.1 :: [.int (nI 0), .ref out]) _ _ _
    refine wp_if_eq (tgt := 17) d_Law_disturb_10 (by decide) (fun c10 => ?_) (fun c10 => ?_)
    · refine wp_lconst (v := lN 0) d_Law_disturb_17 (by decide) ?_
      refine wp_last (t := 1) (N := 1) (f := v) d_Law_disturb_18 (hO_at hD') rfl vp_in0 ?_
      rw [hO_put hD']
      refine wp_goto (tgt := 26) d_Law_disturb_19 (by decide) ?_
      refine wp_iconst (v := nI 0) d_Law_disturb_26 (by decide) ?_
      exact wp_iret d_Law_disturb_27 rfl ⟨hc', _, by rw [h0], rfl, hO_dj hD', ok, fun _ => by show vp_updL v (nI 0).toNatClampNeg _ 0 = _; first | (rw [if_pos c10]; rfl) | (rw [if_neg c10]; rfl)⟩
    · refine wp_lconst (v := lN 1) d_Law_disturb_13 (by decide) ?_
      refine wp_goto (tgt := 18) d_Law_disturb_14 (by decide) ?_
      refine wp_last (t := 1) (N := 1) (f := v) d_Law_disturb_18 (hO_at hD') rfl vp_in0 ?_
      rw [hO_put hD']
      refine wp_goto (tgt := 26) d_Law_disturb_19 (by decide) ?_
      refine wp_iconst (v := nI 0) d_Law_disturb_26 (by decide) ?_
      exact wp_iret d_Law_disturb_27 rfl ⟨hc', _, by rw [h0], rfl, hO_dj hD', ok, fun _ => by show vp_updL v (nI 0).toNatClampNeg _ 0 = _; first | (rw [if_pos c10]; rfl) | (rw [if_neg c10]; rfl)⟩
  · obtain ⟨hc', ⟨e1, ok⟩, rfl, hD'⟩ := q1
    have hx1 := resC_r e1
    have hle := cd_disturb s l c w
    obtain rfl : x1 = 0 := by omega
    refine ⟨22, ⟨[], 0, 19, 13, [], _, rfl, ⟨by decide, by decide⟩, by decide, wH_Law_13, cst_0, fun z hz => by cases hz⟩, fun a1 => ?_⟩
    refine wp_astore (lv' := [(5, .ref a1), (0, .ref (Γ 0 0)), (1, .int l), (2, .int c), (3, .int w), (4, .ref out)]) d_Law_disturb_22 (by decide) rfl ?_
    refine wp_iconst (v := nI 1) d_Law_disturb_24 (by decide) ?_
    exact wp_iret d_Law_disturb_25 rfl ⟨hc', v, by rw [hx1], rfl, hD', ok, fun z => absurd z (by rw [hx1]; decide)⟩
set_option maxRecDepth 20000 in
theorem l_serve {G : Gt}  {hc : AHp} {s : Sa} {o out : Nat} {v : Nat → Int64} {n0 : Nat} (ok0 : NetOK o s hc) (hV : Inv n0 s) (hD : Dj hc (hO out v)) (l : Int32) (w : Bool) : CallS G m_Law_serve 8 112 [.ref o, .int l, .int (bI w), .ref out] (hor hc (hO out v)) (0 + (7 * (sMs s).length + 1)) (0 + (28 * (sMs s).length + 6)) (LQ o out (stServe s l w) (fun v1 => v1 0 = if (stServe s l w).2.1 = 0 then 0 else 1)) := by
  obtain ⟨Γ, ρ, K, N, I, R, L, E, El, Er, rfl, hR, rfl⟩ := ok0
  refine CallS.of (Nat.le_of_ble_eq_true rfl) ?_
  refine wp_aload_n d_Law_serve_0 rfl 3 rfl ?_
  refine wp_iconst (v := nI 0) d_Law_serve_1 (by decide) ?_
  refine wp_aload_n d_Law_serve_2 rfl 0 rfl ?_
  refine wp_iload_n d_Law_serve_3 rfl 1 rfl ?_
  refine wp_iload_n d_Law_serve_4 rfl 2 rfl ?_
  refine wp_callH (k := 0) (n := 0) (k' := (7 * (sMs s).length + 1)) (n' := (28 * (sMs s).length + 6)) (r := 2) d_Law_serve_5 (link_V (as := [.int l, .int (bI w)]) (rest := [.int (nI 0), .ref out]) (r := (R_Net, T_Net, 7)) d_Law_serve_5 cal_Net_serve wM_Law_39 rfl (hor_l (hN_o hR.nt.1 (by decide))) rfl) cal_Net_serve (CallS.frame (n_Net_serve hR hV l w) hD) (Nat.le_of_ble_eq_true rfl) ⟨Nat.le_of_ble_eq_true rfl, Nat.le_of_ble_eq_true rfl⟩ (fun v1 h1 q1 => ?_) (fun x1 h1 q1 => ?_)
  · obtain ⟨hc', ⟨e1, ok⟩, rfl, hD'⟩ := q1
    obtain ⟨h0, rfl⟩ := resC_l e1
    show WP G m_Law_serve _ 8 _ (.int (stServe s l w).2.1 :: [.int (nI 0), .ref out]) _ _ _
    refine wp_if_eq (tgt := 15) d_Law_serve_8 (by decide) (fun c8 => ?_) (fun c8 => ?_)
    · refine wp_lconst (v := lN 0) d_Law_serve_15 (by decide) ?_
      refine wp_last (t := 1) (N := 1) (f := v) d_Law_serve_16 (hO_at hD') rfl vp_in0 ?_
      rw [hO_put hD']
      refine wp_goto (tgt := 24) d_Law_serve_17 (by decide) ?_
      refine wp_iconst (v := nI 0) d_Law_serve_24 (by decide) ?_
      exact wp_iret d_Law_serve_25 rfl ⟨hc', _, by rw [h0], rfl, hO_dj hD', ok, fun _ => by show vp_updL v (nI 0).toNatClampNeg _ 0 = _; first | (rw [if_pos c8]; rfl) | (rw [if_neg c8]; rfl)⟩
    · refine wp_lconst (v := lN 1) d_Law_serve_11 (by decide) ?_
      refine wp_goto (tgt := 16) d_Law_serve_12 (by decide) ?_
      refine wp_last (t := 1) (N := 1) (f := v) d_Law_serve_16 (hO_at hD') rfl vp_in0 ?_
      rw [hO_put hD']
      refine wp_goto (tgt := 24) d_Law_serve_17 (by decide) ?_
      refine wp_iconst (v := nI 0) d_Law_serve_24 (by decide) ?_
      exact wp_iret d_Law_serve_25 rfl ⟨hc', _, by rw [h0], rfl, hO_dj hD', ok, fun _ => by show vp_updL v (nI 0).toNatClampNeg _ 0 = _; first | (rw [if_pos c8]; rfl) | (rw [if_neg c8]; rfl)⟩
  · obtain ⟨hc', ⟨e1, ok⟩, rfl, hD'⟩ := q1
    have hx1 := resC_r e1
    have hle := cd_serve s l w
    obtain rfl : x1 = 0 := by omega
    refine ⟨20, ⟨[], 0, 17, 13, [], _, rfl, ⟨by decide, by decide⟩, by decide, wH_Law_13, cst_0, fun z hz => by cases hz⟩, fun a1 => ?_⟩
    refine wp_astore (lv' := [(4, .ref a1), (0, .ref (Γ 0 0)), (1, .int l), (2, .int (bI w)), (3, .ref out)]) d_Law_serve_20 (by decide) rfl ?_
    refine wp_iconst (v := nI 1) d_Law_serve_22 (by decide) ?_
    exact wp_iret d_Law_serve_23 rfl ⟨hc', v, by rw [hx1], rfl, hD', ok, fun z => absurd z (by rw [hx1]; decide)⟩
set_option maxRecDepth 20000 in
theorem l_time {G : Gt}  {hc : AHp} {s : Sa} {o out : Nat} {v : Nat → Int64} {n0 : Nat} (ok0 : NetOK o s hc) (hV : Inv n0 s) (hD : Dj hc (hO out v)) (t : Int32) : CallS G m_Law_time 7 102 [.ref o, .int t, .ref out] (hor hc (hO out v)) (0 + 1) (0 + 6) (LQ o out (stTime s t) (fun v1 => v1 0 = (stTime s t).2.1.toInt64)) := by
  obtain ⟨Γ, ρ, K, N, I, R, L, E, El, Er, rfl, hR, rfl⟩ := ok0
  refine CallS.of (Nat.le_of_ble_eq_true rfl) ?_
  refine wp_aload_n d_Law_time_0 rfl 2 rfl ?_
  refine wp_iconst (v := nI 0) d_Law_time_1 (by decide) ?_
  refine wp_aload_n d_Law_time_2 rfl 0 rfl ?_
  refine wp_iload_n d_Law_time_3 rfl 1 rfl ?_
  refine wp_callH (k := 0) (n := 0) (k' := 1) (n' := 6) (r := 2) d_Law_time_4 (link_V (as := [.int t]) (rest := [.int (nI 0), .ref out]) (r := (R_Net, T_Net, 7)) d_Law_time_4 cal_Net_time wM_Law_43 rfl (hor_l (hN_o hR.nt.1 (by decide))) rfl) cal_Net_time (CallS.frame (n_Net_time hR hV t) hD) (Nat.le_of_ble_eq_true rfl) ⟨Nat.le_of_ble_eq_true rfl, Nat.le_of_ble_eq_true rfl⟩ (fun v1 h1 q1 => ?_) (fun x1 h1 q1 => ?_)
  · obtain ⟨hc', ⟨e1, ok⟩, rfl, hD'⟩ := q1
    obtain ⟨h0, rfl⟩ := resC_l e1
    show WP G m_Law_time _ 7 _ (.int (stTime s t).2.1 :: [.int (nI 0), .ref out]) _ _ _
    refine wp_i2l d_Law_time_7 rfl ?_
    refine wp_last (t := 1) (N := 1) (f := v) d_Law_time_8 (hO_at hD') rfl vp_in0 ?_
    rw [hO_put hD']
    refine wp_goto (tgt := 15) d_Law_time_9 (by decide) ?_
    refine wp_iconst (v := nI 0) d_Law_time_15 (by decide) ?_
    exact wp_iret d_Law_time_16 rfl ⟨hc', _, by rw [h0], rfl, hO_dj hD', ok, fun _ => by show vp_updL v (nI 0).toNatClampNeg _ 0 = _; rfl⟩
  · obtain ⟨hc', ⟨e1, ok⟩, rfl, hD'⟩ := q1
    have hx1 := resC_r e1
    have hle := cd_time s t
    obtain rfl : x1 = 0 := by omega
    refine ⟨12, ⟨[], 0, 9, 13, [], _, rfl, ⟨by decide, by decide⟩, by decide, wH_Law_13, cst_0, fun z hz => by cases hz⟩, fun a1 => ?_⟩
    refine wp_astore_n (lv' := [(3, .ref a1), (0, .ref (Γ 0 0)), (1, .int t), (2, .ref out)]) d_Law_time_12 rfl (by decide) rfl ?_
    refine wp_iconst (v := nI 1) d_Law_time_13 (by decide) ?_
    exact wp_iret d_Law_time_14 rfl ⟨hc', v, by rw [hx1], rfl, hD', ok, fun z => absurd z (by rw [hx1]; decide)⟩
set_option maxRecDepth 20000 in
theorem l_delivered {G : Gt}  {hc : AHp} {s : Sa} {o out : Nat} {v : Nat → Int64} {n0 : Nat} (ok0 : NetOK o s hc) (hV : Inv n0 s) (hD : Dj hc (hO out v)) (x : Int32) : CallS G m_Law_delivered 8 110 [.ref o, .int x, .ref out] (hor hc (hO out v)) (0 + 1) (0 + 6) (LQ o out (stDelivered s x) (fun v1 => v1 0 = (stDelivered s x).2.1.toInt64)) := by
  obtain ⟨Γ, ρ, K, N, I, R, L, E, El, Er, rfl, hR, rfl⟩ := ok0
  refine CallS.of (Nat.le_of_ble_eq_true rfl) ?_
  refine wp_aload_n d_Law_delivered_0 rfl 2 rfl ?_
  refine wp_iconst (v := nI 0) d_Law_delivered_1 (by decide) ?_
  refine wp_aload_n d_Law_delivered_2 rfl 0 rfl ?_
  refine wp_iload_n d_Law_delivered_3 rfl 1 rfl ?_
  refine wp_callH (k := 0) (n := 0) (k' := 1) (n' := 6) (r := 2) d_Law_delivered_4 (link_V (as := [.int x]) (rest := [.int (nI 0), .ref out]) (r := (R_Net, T_Net, 7)) d_Law_delivered_4 cal_Net_delivered wM_Law_47 rfl (hor_l (hN_o hR.nt.1 (by decide))) rfl) cal_Net_delivered (CallS.frame (n_Net_delivered hR  x) hD) (Nat.le_of_ble_eq_true rfl) ⟨Nat.le_of_ble_eq_true rfl, Nat.le_of_ble_eq_true rfl⟩ (fun v1 h1 q1 => ?_) (fun x1 h1 q1 => ?_)
  · obtain ⟨hc', ⟨e1, ok⟩, rfl, hD'⟩ := q1
    obtain ⟨h0, rfl⟩ := resC_l e1
    show WP G m_Law_delivered _ 7 _ (.int (stDelivered s x).2.1 :: [.int (nI 0), .ref out]) _ _ _
    refine wp_i2l d_Law_delivered_7 rfl ?_
    refine wp_last (t := 1) (N := 1) (f := v) d_Law_delivered_8 (hO_at hD') rfl vp_in0 ?_
    rw [hO_put hD']
    refine wp_goto (tgt := 15) d_Law_delivered_9 (by decide) ?_
    refine wp_iconst (v := nI 0) d_Law_delivered_15 (by decide) ?_
    exact wp_iret d_Law_delivered_16 rfl ⟨hc', _, by rw [h0], rfl, hO_dj hD', ok, fun _ => by show vp_updL v (nI 0).toNatClampNeg _ 0 = _; rfl⟩
  · obtain ⟨hc', ⟨e1, ok⟩, rfl, hD'⟩ := q1
    have hx1 := resC_r e1
    have hle := cd_delivered s x
    obtain rfl : x1 = 0 := by omega
    refine ⟨12, ⟨[], 0, 9, 13, [], _, rfl, ⟨by decide, by decide⟩, by decide, wH_Law_13, cst_0, fun z hz => by cases hz⟩, fun a1 => ?_⟩
    refine wp_astore_n (lv' := [(3, .ref a1), (0, .ref (Γ 0 0)), (1, .int x), (2, .ref out)]) d_Law_delivered_12 rfl (by decide) rfl ?_
    refine wp_iconst (v := nI 1) d_Law_delivered_13 (by decide) ?_
    exact wp_iret d_Law_delivered_14 rfl ⟨hc', v, by rw [hx1], rfl, hD', ok, fun z => absurd z (by rw [hx1]; decide)⟩
set_option maxRecDepth 20000 in
theorem l_read {G : Gt}  {hc : AHp} {s : Sa} {o out : Nat} {v : Nat → Int64} {n0 : Nat} (ok0 : NetOK o s hc) (hV : Inv n0 s) (hD : Dj hc (hO out v)) (x : Int32) (k : Int32) (i : Int32) : CallS G m_Law_read 8 113 [.ref o, .int x, .int k, .int i, .ref out] (hor hc (hO out v)) (0 + 1) (0 + 6) (LQ o out (stRead s x k i) (fun v1 => v1 0 = (stRead s x k i).2.1.toInt64)) := by
  obtain ⟨Γ, ρ, K, N, I, R, L, E, El, Er, rfl, hR, rfl⟩ := ok0
  refine CallS.of (Nat.le_of_ble_eq_true rfl) ?_
  refine wp_aload d_Law_read_0 4 rfl ?_
  refine wp_iconst (v := nI 0) d_Law_read_2 (by decide) ?_
  refine wp_aload_n d_Law_read_3 rfl 0 rfl ?_
  refine wp_iload_n d_Law_read_4 rfl 1 rfl ?_
  refine wp_iload_n d_Law_read_5 rfl 2 rfl ?_
  refine wp_iload_n d_Law_read_6 rfl 3 rfl ?_
  refine wp_callH (k := 0) (n := 0) (k' := 1) (n' := 6) (r := 2) d_Law_read_7 (link_V (as := [.int x, .int k, .int i]) (rest := [.int (nI 0), .ref out]) (r := (R_Net, T_Net, 7)) d_Law_read_7 cal_Net_read wM_Law_50 rfl (hor_l (hN_o hR.nt.1 (by decide))) rfl) cal_Net_read (CallS.frame (n_Net_read hR hV x k i) hD) (Nat.le_of_ble_eq_true rfl) ⟨Nat.le_of_ble_eq_true rfl, Nat.le_of_ble_eq_true rfl⟩ (fun v1 h1 q1 => ?_) (fun x1 h1 q1 => ?_)
  · obtain ⟨hc', ⟨e1, ok⟩, rfl, hD'⟩ := q1
    obtain ⟨h0, rfl⟩ := resC_l e1
    show WP G m_Law_read _ 10 _ (.int (stRead s x k i).2.1 :: [.int (nI 0), .ref out]) _ _ _
    refine wp_i2l d_Law_read_10 rfl ?_
    refine wp_last (t := 1) (N := 1) (f := v) d_Law_read_11 (hO_at hD') rfl vp_in0 ?_
    rw [hO_put hD']
    refine wp_goto (tgt := 19) d_Law_read_12 (by decide) ?_
    refine wp_iconst (v := nI 0) d_Law_read_19 (by decide) ?_
    exact wp_iret d_Law_read_20 rfl ⟨hc', _, by rw [h0], rfl, hO_dj hD', ok, fun _ => by show vp_updL v (nI 0).toNatClampNeg _ 0 = _; rfl⟩
  · obtain ⟨hc', ⟨e1, ok⟩, rfl, hD'⟩ := q1
    have hx1 := resC_r e1
    have hle := cd_read s x k i
    obtain rfl : x1 = 0 := by omega
    refine ⟨15, ⟨[], 0, 12, 13, [], _, rfl, ⟨by decide, by decide⟩, by decide, wH_Law_13, cst_0, fun z hz => by cases hz⟩, fun a1 => ?_⟩
    refine wp_astore (lv' := [(5, .ref a1), (0, .ref (Γ 0 0)), (1, .int x), (2, .int k), (3, .int i), (4, .ref out)]) d_Law_read_15 (by decide) rfl ?_
    refine wp_iconst (v := nI 1) d_Law_read_17 (by decide) ?_
    exact wp_iret d_Law_read_18 rfl ⟨hc', v, by rw [hx1], rfl, hD', ok, fun z => absurd z (by rw [hx1]; decide)⟩
set_option maxRecDepth 20000 in
theorem l_arrived {G : Gt}  {hc : AHp} {s : Sa} {o out : Nat} {v : Nat → Int64} {n0 : Nat} (ok0 : NetOK o s hc) (hV : Inv n0 s) (hD : Dj hc (hO out v)) (m : Int32) (k : Int32) : CallS G m_Law_arrived 7 99 [.ref o, .int m, .int k, .ref out] (hor hc (hO out v)) (0 + 1) (0 + 6) (LQ o out (stArrived s m k) (fun v1 => v1 0 = if (stArrived s m k).2.1 = 0 then 0 else 1)) := by
  obtain ⟨Γ, ρ, K, N, I, R, L, E, El, Er, rfl, hR, rfl⟩ := ok0
  refine CallS.of (Nat.le_of_ble_eq_true rfl) ?_
  refine wp_aload_n d_Law_arrived_0 rfl 3 rfl ?_
  refine wp_iconst (v := nI 0) d_Law_arrived_1 (by decide) ?_
  refine wp_aload_n d_Law_arrived_2 rfl 0 rfl ?_
  refine wp_iload_n d_Law_arrived_3 rfl 1 rfl ?_
  refine wp_iload_n d_Law_arrived_4 rfl 2 rfl ?_
  refine wp_callH (k := 0) (n := 0) (k' := 1) (n' := 6) (r := 2) d_Law_arrived_5 (link_V (as := [.int m, .int k]) (rest := [.int (nI 0), .ref out]) (r := (R_Net, T_Net, 7)) d_Law_arrived_5 cal_Net_arrived wM_Law_54 rfl (hor_l (hN_o hR.nt.1 (by decide))) rfl) cal_Net_arrived (CallS.frame (n_Net_arrived hR hV m k) hD) (Nat.le_of_ble_eq_true rfl) ⟨Nat.le_of_ble_eq_true rfl, Nat.le_of_ble_eq_true rfl⟩ (fun v1 h1 q1 => ?_) (fun x1 h1 q1 => ?_)
  · obtain ⟨hc', ⟨e1, ok⟩, rfl, hD'⟩ := q1
    obtain ⟨h0, rfl⟩ := resC_l e1
    show WP G m_Law_arrived _ 8 _ (.int (stArrived s m k).2.1 :: [.int (nI 0), .ref out]) _ _ _
    refine wp_if_eq (tgt := 15) d_Law_arrived_8 (by decide) (fun c8 => ?_) (fun c8 => ?_)
    · refine wp_lconst (v := lN 0) d_Law_arrived_15 (by decide) ?_
      refine wp_last (t := 1) (N := 1) (f := v) d_Law_arrived_16 (hO_at hD') rfl vp_in0 ?_
      rw [hO_put hD']
      refine wp_goto (tgt := 24) d_Law_arrived_17 (by decide) ?_
      refine wp_iconst (v := nI 0) d_Law_arrived_24 (by decide) ?_
      exact wp_iret d_Law_arrived_25 rfl ⟨hc', _, by rw [h0], rfl, hO_dj hD', ok, fun _ => by show vp_updL v (nI 0).toNatClampNeg _ 0 = _; first | (rw [if_pos c8]; rfl) | (rw [if_neg c8]; rfl)⟩
    · refine wp_lconst (v := lN 1) d_Law_arrived_11 (by decide) ?_
      refine wp_goto (tgt := 16) d_Law_arrived_12 (by decide) ?_
      refine wp_last (t := 1) (N := 1) (f := v) d_Law_arrived_16 (hO_at hD') rfl vp_in0 ?_
      rw [hO_put hD']
      refine wp_goto (tgt := 24) d_Law_arrived_17 (by decide) ?_
      refine wp_iconst (v := nI 0) d_Law_arrived_24 (by decide) ?_
      exact wp_iret d_Law_arrived_25 rfl ⟨hc', _, by rw [h0], rfl, hO_dj hD', ok, fun _ => by show vp_updL v (nI 0).toNatClampNeg _ 0 = _; first | (rw [if_pos c8]; rfl) | (rw [if_neg c8]; rfl)⟩
  · obtain ⟨hc', ⟨e1, ok⟩, rfl, hD'⟩ := q1
    have hx1 := resC_r e1
    have hle := cd_arrived s m k
    obtain rfl : x1 = 0 := by omega
    refine ⟨20, ⟨[], 0, 17, 13, [], _, rfl, ⟨by decide, by decide⟩, by decide, wH_Law_13, cst_0, fun z hz => by cases hz⟩, fun a1 => ?_⟩
    refine wp_astore (lv' := [(4, .ref a1), (0, .ref (Γ 0 0)), (1, .int m), (2, .int k), (3, .ref out)]) d_Law_arrived_20 (by decide) rfl ?_
    refine wp_iconst (v := nI 1) d_Law_arrived_22 (by decide) ?_
    exact wp_iret d_Law_arrived_23 rfl ⟨hc', v, by rw [hx1], rfl, hD', ok, fun z => absurd z (by rw [hx1]; decide)⟩
set_option maxRecDepth 20000 in
theorem l_channel {G : Gt}  {hc : AHp} {s : Sa} {o out : Nat} {v : Nat → Int64} {n0 : Nat} (ok0 : NetOK o s hc) (hV : Inv n0 s) (hD : Dj hc (hO out v)) (l : Int32) (c : Int32) (w : Int32) : CallS G m_Law_channel 8 113 [.ref o, .int l, .int c, .int w, .ref out] (hor hc (hO out v)) (0 + 1) (0 + 6) (LQ o out (stChannel s l c w) (fun v1 => v1 0 = (stChannel s l c w).2.1.toInt64)) := by
  obtain ⟨Γ, ρ, K, N, I, R, L, E, El, Er, rfl, hR, rfl⟩ := ok0
  refine CallS.of (Nat.le_of_ble_eq_true rfl) ?_
  refine wp_aload d_Law_channel_0 4 rfl ?_
  refine wp_iconst (v := nI 0) d_Law_channel_2 (by decide) ?_
  refine wp_aload_n d_Law_channel_3 rfl 0 rfl ?_
  refine wp_iload_n d_Law_channel_4 rfl 1 rfl ?_
  refine wp_iload_n d_Law_channel_5 rfl 2 rfl ?_
  refine wp_iload_n d_Law_channel_6 rfl 3 rfl ?_
  refine wp_callH (k := 0) (n := 0) (k' := 1) (n' := 6) (r := 2) d_Law_channel_7 (link_V (as := [.int l, .int c, .int w]) (rest := [.int (nI 0), .ref out]) (r := (R_Net, T_Net, 7)) d_Law_channel_7 cal_Net_channel wM_Law_58 rfl (hor_l (hN_o hR.nt.1 (by decide))) rfl) cal_Net_channel (CallS.frame (n_Net_channel hR  l c w) hD) (Nat.le_of_ble_eq_true rfl) ⟨Nat.le_of_ble_eq_true rfl, Nat.le_of_ble_eq_true rfl⟩ (fun v1 h1 q1 => ?_) (fun x1 h1 q1 => ?_)
  · obtain ⟨hc', ⟨e1, ok⟩, rfl, hD'⟩ := q1
    obtain ⟨h0, rfl⟩ := resC_l e1
    show WP G m_Law_channel _ 10 _ (.int (stChannel s l c w).2.1 :: [.int (nI 0), .ref out]) _ _ _
    refine wp_i2l d_Law_channel_10 rfl ?_
    refine wp_last (t := 1) (N := 1) (f := v) d_Law_channel_11 (hO_at hD') rfl vp_in0 ?_
    rw [hO_put hD']
    refine wp_goto (tgt := 19) d_Law_channel_12 (by decide) ?_
    refine wp_iconst (v := nI 0) d_Law_channel_19 (by decide) ?_
    exact wp_iret d_Law_channel_20 rfl ⟨hc', _, by rw [h0], rfl, hO_dj hD', ok, fun _ => by show vp_updL v (nI 0).toNatClampNeg _ 0 = _; rfl⟩
  · obtain ⟨hc', ⟨e1, ok⟩, rfl, hD'⟩ := q1
    have hx1 := resC_r e1
    have hle := cd_channel s l c w
    obtain rfl : x1 = 0 := by omega
    refine ⟨15, ⟨[], 0, 12, 13, [], _, rfl, ⟨by decide, by decide⟩, by decide, wH_Law_13, cst_0, fun z hz => by cases hz⟩, fun a1 => ?_⟩
    refine wp_astore (lv' := [(5, .ref a1), (0, .ref (Γ 0 0)), (1, .int l), (2, .int c), (3, .int w), (4, .ref out)]) d_Law_channel_15 (by decide) rfl ?_
    refine wp_iconst (v := nI 1) d_Law_channel_17 (by decide) ?_
    exact wp_iret d_Law_channel_18 rfl ⟨hc', v, by rw [hx1], rfl, hD', ok, fun z => absurd z (by rw [hx1]; decide)⟩
set_option maxRecDepth 20000 in
theorem l_count {G : Gt}  {hc : AHp} {s : Sa} {o out : Nat} {v : Nat → Int64} {n0 : Nat} (ok0 : NetOK o s hc) (hV : Inv n0 s) (hD : Dj hc (hO out v)) (x : Int32) (w : Int32) : CallS G m_Law_count 8 112 [.ref o, .int x, .int w, .ref out] (hor hc (hO out v)) (0 + 1) (0 + 6) (LQ o out (stCount s x w) (fun v1 => v1 0 = (stCount s x w).2.1.toInt64)) := by
  obtain ⟨Γ, ρ, K, N, I, R, L, E, El, Er, rfl, hR, rfl⟩ := ok0
  refine CallS.of (Nat.le_of_ble_eq_true rfl) ?_
  refine wp_aload_n d_Law_count_0 rfl 3 rfl ?_
  refine wp_iconst (v := nI 0) d_Law_count_1 (by decide) ?_
  refine wp_aload_n d_Law_count_2 rfl 0 rfl ?_
  refine wp_iload_n d_Law_count_3 rfl 1 rfl ?_
  refine wp_iload_n d_Law_count_4 rfl 2 rfl ?_
  refine wp_callH (k := 0) (n := 0) (k' := 1) (n' := 6) (r := 2) d_Law_count_5 (link_V (as := [.int x, .int w]) (rest := [.int (nI 0), .ref out]) (r := (R_Net, T_Net, 7)) d_Law_count_5 cal_Net_count wM_Law_61 rfl (hor_l (hN_o hR.nt.1 (by decide))) rfl) cal_Net_count (CallS.frame (n_Net_count hR  x w) hD) (Nat.le_of_ble_eq_true rfl) ⟨Nat.le_of_ble_eq_true rfl, Nat.le_of_ble_eq_true rfl⟩ (fun v1 h1 q1 => ?_) (fun x1 h1 q1 => ?_)
  · obtain ⟨hc', ⟨e1, ok⟩, rfl, hD'⟩ := q1
    obtain ⟨h0, rfl⟩ := resC_l e1
    show WP G m_Law_count _ 8 _ (.int (stCount s x w).2.1 :: [.int (nI 0), .ref out]) _ _ _
    refine wp_i2l d_Law_count_8 rfl ?_
    refine wp_last (t := 1) (N := 1) (f := v) d_Law_count_9 (hO_at hD') rfl vp_in0 ?_
    rw [hO_put hD']
    refine wp_goto (tgt := 17) d_Law_count_10 (by decide) ?_
    refine wp_iconst (v := nI 0) d_Law_count_17 (by decide) ?_
    exact wp_iret d_Law_count_18 rfl ⟨hc', _, by rw [h0], rfl, hO_dj hD', ok, fun _ => by show vp_updL v (nI 0).toNatClampNeg _ 0 = _; rfl⟩
  · obtain ⟨hc', ⟨e1, ok⟩, rfl, hD'⟩ := q1
    have hx1 := resC_r e1
    have hle := cd_count s x w
    obtain rfl : x1 = 0 := by omega
    refine ⟨13, ⟨[], 0, 10, 13, [], _, rfl, ⟨by decide, by decide⟩, by decide, wH_Law_13, cst_0, fun z hz => by cases hz⟩, fun a1 => ?_⟩
    refine wp_astore (lv' := [(4, .ref a1), (0, .ref (Γ 0 0)), (1, .int x), (2, .int w), (3, .ref out)]) d_Law_count_13 (by decide) rfl ?_
    refine wp_iconst (v := nI 1) d_Law_count_15 (by decide) ?_
    exact wp_iret d_Law_count_16 rfl ⟨hc', v, by rw [hx1], rfl, hD', ok, fun z => absurd z (by rw [hx1]; decide)⟩
end Cls38
