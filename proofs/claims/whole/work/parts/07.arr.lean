section ArrRules
variable {G : Gt} {y : Mi} {B : Bt} {pc : Nat} {lv : List (Nat × Value)} {st : List Value} {h : AHp} {k n : Nat}
theorem aTys_at {dA : Nat → ClassId} {t : Nat} {ty : FieldType} (ht : aTy[t]? = some ty) : (aTys dA)[t]? = some (dA t, ty) := by
  have hl : t < aTy.length := (List.getElem?_eq_some_iff.mp ht).1
  unfold aTys
  rw [List.getElem?_map, List.getElem?_range hl]
  simp [List.getD, ht]
theorem Pt2.put {s : State} {H H1 : Heap} {locs : List Loc} {ls : Array Slot} {cells slots a j : Nat} {o o0 : AObj} (hP : Pt2 G y B s H locs ls lv h k n cells slots) (ha : h a = some o0) (he : va_at (GD G) vwCl (a, aE (GA G) o) H1) (hz : H1.size = H.size) (oq : ∀ q : Nat, q ≠ a → H1[q]? = H[q]?) : Pt2 G y B s H1 (locs ++ [⟨a, j⟩]) ls lv (hup h a o) k n cells slots := by
  refine ⟨hP.1.put he oq, ?_, ?_, hP.2.2.2.1.put hz oq (hP.2.2.1 a (by rw [ha]; simp)), hP.2.2.2.2⟩
  · intro q hq
    rcases hup_dom hq with rfl | hq
    · exact hP.2.1 _ (by rw [ha]; simp)
    · exact hP.2.1 q hq
  · intro q hq
    rcases hup_dom hq with rfl | hq
    · exact hP.2.2.1 _ (by rw [ha]; simp)
    · exact hP.2.2.1 q hq
theorem wp_iald {a t N : Nat} {f : Nat → Int32} {i : Int32} (hd : decode (mB y) pc = .ok (.iaload, 1)) (ha : h a = some (.inl (t, N, .inl f))) (ht : aTy[t]? = some (.int)) (hin : vp_in i N) (kk : WP G y B (pc + 1) lv (.int (f i.toNatClampNeg) :: st) h k n) : WP G y B pc lv (.int i :: .ref a :: st) h k n := by
  intro p e R s m args below meth c hF H locs ls cells slots hP
  obtain ⟨hx, hb, -, -, hown, -, -, -, hamb, -, -, hRk, hRn, hG⟩ := id hF
  exact va_iald (D := GD G) (cl := vwCl) (tys := aTys (GA G)) (ws := [(a, .inl (GA G t, N, .inl f))]) hx hb (hG.K hamb) (hP.1.one ha) 0 t rfl (aTys_at ht) hin hd (kk p e R s m args below meth c hF H locs ls cells slots hP)
theorem wp_bald {a t N : Nat} {f : Nat → Int32} {i : Int32} (hd : decode (mB y) pc = .ok (.baload, 1)) (ha : h a = some (.inl (t, N, .inl f))) (ht : aTy[t]? = some (.byte)) (hin : vp_in i N) (kk : WP G y B (pc + 1) lv (.int (f i.toNatClampNeg) :: st) h k n) : WP G y B pc lv (.int i :: .ref a :: st) h k n := by
  intro p e R s m args below meth c hF H locs ls cells slots hP
  obtain ⟨hx, hb, -, -, hown, -, -, -, hamb, -, -, hRk, hRn, hG⟩ := id hF
  exact va_bald (D := GD G) (cl := vwCl) (tys := aTys (GA G)) (ws := [(a, .inl (GA G t, N, .inl f))]) hx hb (hG.K hamb) (hP.1.one ha) 0 t rfl (aTys_at ht) hin hd (kk p e R s m args below meth c hF H locs ls cells slots hP)
theorem wp_zald {a t N : Nat} {f : Nat → Int32} {i : Int32} (hd : decode (mB y) pc = .ok (.baload, 1)) (ha : h a = some (.inl (t, N, .inl f))) (ht : aTy[t]? = some (.boolean)) (hin : vp_in i N) (kk : WP G y B (pc + 1) lv (.int (f i.toNatClampNeg) :: st) h k n) : WP G y B pc lv (.int i :: .ref a :: st) h k n := by
  intro p e R s m args below meth c hF H locs ls cells slots hP
  obtain ⟨hx, hb, -, -, hown, -, -, -, hamb, -, -, hRk, hRn, hG⟩ := id hF
  exact va_zald (D := GD G) (cl := vwCl) (tys := aTys (GA G)) (ws := [(a, .inl (GA G t, N, .inl f))]) hx hb (hG.K hamb) (hP.1.one ha) 0 t rfl (aTys_at ht) hin hd (kk p e R s m args below meth c hF H locs ls cells slots hP)
theorem wp_lald {a t N : Nat} {f : Nat → Int64} {i : Int32} (hd : decode (mB y) pc = .ok (.laload, 1)) (ha : h a = some (.inl (t, N, .inr (.inl f)))) (ht : aTy[t]? = some (.long)) (hin : vp_in i N) (kk : WP G y B (pc + 1) lv (.long (f i.toNatClampNeg) :: st) h k n) : WP G y B pc lv (.int i :: .ref a :: st) h k n := by
  intro p e R s m args below meth c hF H locs ls cells slots hP
  obtain ⟨hx, hb, -, -, hown, -, -, -, hamb, -, -, hRk, hRn, hG⟩ := id hF
  exact va_lald (D := GD G) (cl := vwCl) (tys := aTys (GA G)) (ws := [(a, .inl (GA G t, N, .inr (.inl f)))]) hx hb (hG.K hamb) (hP.1.one ha) 0 t rfl (aTys_at ht) hin hd (kk p e R s m args below meth c hF H locs ls cells slots hP)
theorem wp_aldq {C : String} {a t N : Nat} {f : Nat → Option Nat} {i : Int32} (hd : decode (mB y) pc = .ok (.aaload, 1)) (ha : h a = some (.inl (t, N, .inr (.inr (.inr (.inr f)))))) (ht : aTy[t]? = some (.object C)) (hin : vp_in i N) (kk : WP G y B (pc + 1) lv (va_rf (f i.toNatClampNeg) :: st) h k n) : WP G y B pc lv (.int i :: .ref a :: st) h k n := by
  intro p e R s m args below meth c hF H locs ls cells slots hP
  obtain ⟨hx, hb, -, -, hown, -, -, -, hamb, -, -, hRk, hRn, hG⟩ := id hF
  exact va_aldq (D := GD G) (cl := vwCl) (tys := aTys (GA G)) (ws := [(a, .inl (GA G t, N, .inr (.inr (.inr (.inr f)))))]) hx hb (hG.K hamb) (hP.1.one ha) 0 t rfl (aTys_at ht) hin hd (kk p e R s m args below meth c hF H locs ls cells slots hP)
theorem wp_iast {a t N : Nat} {f : Nat → Int32} {i : Int32} {x : Int32} (hd : decode (mB y) pc = .ok (.iastore, 1)) (ha : h a = some (.inl (t, N, .inl f))) (ht : aTy[t]? = some (.int)) (hin : vp_in i N) (kk : WP G y B (pc + 1) lv st (hup h a (.inl (t, N, .inl (upd f i.toNatClampNeg x)))) k n) : WP G y B pc lv (.int x :: .int i :: .ref a :: st) h k n := by
  intro p e R s m args below meth c hF H locs ls cells slots hP
  obtain ⟨hx, hb, -, -, hown, -, -, -, hamb, -, -, hRk, hRn, hG⟩ := id hF
  have hK := hG.K hamb
  refine W.iast hx hb (hP.1 a _ ha) ((hK.2 t _ (aTys_at ht)).1 N (fun j => .int (f j))) (fun q => by cases q) (by show ¬ (i < 0 ∨ (arrV _ _ _).slots.size ≤ _); rw [arrV_size]; exact hin) rfl rfl hd fun H1 e1 z oq => ?_
  refine kk p e R s m args below meth c hF H1 _ ls cells slots (hP.put ha ?_ z oq)
  show H1[a]? = some (vp_cell _ _)
  rw [e1]
  show some ((vp_cell (GA G t) (N, .inl f)).setSlot _ _) = _
  rw [vp_cell_i, vp_cell_i, arrV_store]
  congr 2
  funext q
  by_cases hq : q = i.toNatClampNeg
  · subst hq
    simp [updV, upd, vp_nar, narrow]
  · simp [updV, upd, hq]
theorem wp_bast {a t N : Nat} {f : Nat → Int32} {i : Int32} {x : Int32} (hd : decode (mB y) pc = .ok (.bastore, 1)) (ha : h a = some (.inl (t, N, .inl f))) (ht : aTy[t]? = some (.byte)) (hin : vp_in i N) (kk : WP G y B (pc + 1) lv st (hup h a (.inl (t, N, .inl (upd f i.toNatClampNeg (vp_nar .byte x))))) k n) : WP G y B pc lv (.int x :: .int i :: .ref a :: st) h k n := by
  intro p e R s m args below meth c hF H locs ls cells slots hP
  obtain ⟨hx, hb, -, -, hown, -, -, -, hamb, -, -, hRk, hRn, hG⟩ := id hF
  have hK := hG.K hamb
  refine W.bast hx hb (hP.1 a _ ha) ((hK.2 t _ (aTys_at ht)).1 N (fun j => .int (f j))) (fun q => by cases q) (by show ¬ (i < 0 ∨ (arrV _ _ _).slots.size ≤ _); rw [arrV_size]; exact hin) rfl rfl hd fun H1 e1 z oq => ?_
  refine kk p e R s m args below meth c hF H1 _ ls cells slots (hP.put ha ?_ z oq)
  show H1[a]? = some (vp_cell _ _)
  rw [e1]
  show some ((vp_cell (GA G t) (N, .inl f)).setSlot _ _) = _
  rw [vp_cell_i, vp_cell_i, arrV_store]
  congr 2
  funext q
  by_cases hq : q = i.toNatClampNeg
  · subst hq
    simp [updV, upd, vp_nar, narrow]
  · simp [updV, upd, hq]
theorem wp_zast {a t N : Nat} {f : Nat → Int32} {i : Int32} {x : Int32} (hd : decode (mB y) pc = .ok (.bastore, 1)) (ha : h a = some (.inl (t, N, .inl f))) (ht : aTy[t]? = some (.boolean)) (hin : vp_in i N) (kk : WP G y B (pc + 1) lv st (hup h a (.inl (t, N, .inl (upd f i.toNatClampNeg (vp_nar .boolean x))))) k n) : WP G y B pc lv (.int x :: .int i :: .ref a :: st) h k n := by
  intro p e R s m args below meth c hF H locs ls cells slots hP
  obtain ⟨hx, hb, -, -, hown, -, -, -, hamb, -, -, hRk, hRn, hG⟩ := id hF
  have hK := hG.K hamb
  refine W.zast hx hb (hP.1 a _ ha) ((hK.2 t _ (aTys_at ht)).1 N (fun j => .int (f j))) (fun q => by cases q) (by show ¬ (i < 0 ∨ (arrV _ _ _).slots.size ≤ _); rw [arrV_size]; exact hin) rfl rfl hd fun H1 e1 z oq => ?_
  refine kk p e R s m args below meth c hF H1 _ ls cells slots (hP.put ha ?_ z oq)
  show H1[a]? = some (vp_cell _ _)
  rw [e1]
  show some ((vp_cell (GA G t) (N, .inl f)).setSlot _ _) = _
  rw [vp_cell_i, vp_cell_i, arrV_store]
  congr 2
  funext q
  by_cases hq : q = i.toNatClampNeg
  · subst hq
    simp [updV, upd, vp_nar, narrow]
  · simp [updV, upd, hq]
theorem wp_last {a t N : Nat} {f : Nat → Int64} {i : Int32} {x : Int64} (hd : decode (mB y) pc = .ok (.lastore, 1)) (ha : h a = some (.inl (t, N, .inr (.inl f)))) (ht : aTy[t]? = some (.long)) (hin : vp_in i N) (kk : WP G y B (pc + 1) lv st (hup h a (.inl (t, N, .inr (.inl (vp_updL f i.toNatClampNeg x))))) k n) : WP G y B pc lv (.long x :: .int i :: .ref a :: st) h k n := by
  intro p e R s m args below meth c hF H locs ls cells slots hP
  obtain ⟨hx, hb, -, -, hown, -, -, -, hamb, -, -, hRk, hRn, hG⟩ := id hF
  have hK := hG.K hamb
  refine W.last hx hb (hP.1 a _ ha) ((hK.2 t _ (aTys_at ht)).1 N (fun j => .long (f j))) (fun q => by cases q) (by show ¬ (i < 0 ∨ (arrV _ _ _).slots.size ≤ _); rw [arrV_size]; exact hin) rfl rfl hd fun H1 e1 z oq => ?_
  refine kk p e R s m args below meth c hF H1 _ ls cells slots (hP.put ha ?_ z oq)
  show H1[a]? = some (vp_cell _ _)
  rw [e1]
  show some ((vp_cell (GA G t) (N, .inr (.inl f))).setSlot _ _) = _
  rw [vp_cell_l, vp_cell_l, arrV_store]
  congr 2
  funext q
  by_cases hq : q = i.toNatClampNeg
  · subst hq
    simp [updV, vp_updL, vp_nar, narrow]
  · simp [updV, vp_updL, hq]
theorem wp_astq {a t N v ci : Nat} {r : vw_C} {vs : List Value} {f : Nat → Option Nat} {i : Int32} (hd : decode (mB y) pc = .ok (.aastore, 1)) (ha : h a = some (.inl (t, N, .inr (.inr (.inr (.inr f)))))) (ht : aTy[t]? = some (.object r.1)) (hv : h v = some (.inr (ci, vs))) (hc : vwCl[ci]? = some r) (hin : vp_in i N) (kk : WP G y B (pc + 1) lv st (hup h a (.inl (t, N, .inr (.inr (.inr (.inr (va_up f i.toNatClampNeg (some v)))))))) k n) : WP G y B pc lv (.ref v :: .int i :: .ref a :: st) h k n := by
  intro p e R s m args below meth c hF H locs ls cells slots hP
  obtain ⟨hx, hb, -, -, hown, -, -, -, hamb, -, -, hRk, hRn, hG⟩ := id hF
  have hK := hG.K hamb
  have hlt : i.toNatClampNeg < N := Nat.not_le.mp fun q => hin (Or.inr q)
  have h0 : ¬ i < 0 := fun q => hin (Or.inl q)
  obtain ⟨r', hr', cellV, g1, g2, g3, -⟩ := hP.1 v _ hv
  have hcls := (hK.1 ci r hc).2
  obtain ⟨kA, comp, k1, k2, k3, -⟩ := (hK.2 t _ (aTys_at ht)).2
  have hcomp : comp = (GD G).1 ci := Option.some.inj (k3.symm.trans hcls.1)
  subst hcomp
  obtain ⟨kC, hkC, -⟩ := hcls.2
  refine W.aast hx hb (hP.1 a _ ha) (fun q h => by cases h) (fun h => by cases h) k1 k2 rfl hkC ⟨h0, by show _ < (arrV _ _ _).slots.size; rw [arrV_size]; exact hlt⟩ g1 (fun q h => by rw [g3] at h; cases h) (by rw [g2]; exact hkC) (by rw [g2]; exact va_assign hcls) rfl rfl hd fun H1 e1 z oq => ?_
  refine kk p e R s m args below meth c hF H1 _ ls cells slots (hP.put ha ?_ z oq)
  show H1[a]? = some (vp_cell _ _)
  rw [e1]
  show some ((vp_cell (GA G t) (N, .inr (.inr (.inr (.inr f))))).setSlot _ _) = _
  rw [vp_cell_q, vp_cell_q, arrV_store]
  congr 2
  funext q
  by_cases hq : q = i.toNatClampNeg
  · subst hq
    simp [updV, va_up, va_rf]
  · simp [updV, va_up, hq]
theorem wp_alen {a t N : Nat} {x : vp_A} {ty : FieldType} {v : Int32} (hd : decode (mB y) pc = .ok (.arraylength, 1)) (ha : h a = some (.inl (t, x))) (ht : aTy[t]? = some ty) (hv : Int32.ofNat x.1 = v) (kk : WP G y B (pc + 1) lv (.int v :: st) h k n) : WP G y B pc lv (.ref a :: st) h k n := by
  intro p e R s m args below meth c hF H locs ls cells slots hP
  obtain ⟨hx, hb, -, -, hown, -, -, -, hamb, -, -, hRk, hRn, hG⟩ := id hF
  exact va_alen (D := GD G) (cl := vwCl) (tys := aTys (GA G)) (ws := [(a, .inl (GA G t, x))]) hx hb (hG.K hamb) (hP.1.one ha) 0 t rfl (aTys_at ht) hv hd (kk p e R s m args below meth c hF H locs ls cells slots hP)
theorem wp_newa {atype : ArrayType} {ty : FieldType} {t N : Nat} {x : Int32} {a0 : vp_A} (hd : decode (mB y) pc = .ok (.newarray atype, 2)) (hty : newarray.typeOf atype = ty) (ht : aTy[t]? = some ty) (hprim : ∀ C, ty ≠ .object C) (hw : GoodIn lw_tbl [Cond.arrayClass ty]) (ha : ∀ cA : ClassId, vp_cell cA a0 = arrV cA N (fun _ => defaultValue ty)) (hx0 : ¬ x < 0) (hN : x.toNatClampNeg = N) (hbytes : N * componentBytes ty ≤ 536870912)
    (kk : ∀ q : Nat, h q = none → WP G y B (pc + 2) lv (.ref q :: st) (hup h q (.inl (t, a0))) k n) : WP G y B pc lv (.int x :: st) h (k + 1) (n + N) := by
  intro p e R s m args below meth c hF H locs ls cells slots hP
  obtain ⟨hx, hb, -, -, hown, -, -, -, hamb, -, -, hRk, hRn, hG⟩ := id hF
  have hK := hG.K hamb
  have hPk := hP.2.2.2.2.2.1
  have hPn := hP.2.2.2.2.2.2.1
  subst hty
  refine va_newaK hx hb (hG.words hamb hw _ List.mem_cons_self) rfl hd rfl hx0 hN hbytes (by omega) (by omega) rfl fun H1 cA e1 z1 o1 hAr hNm => ?_
  have hcA : cA = GA G t := by
    have h2 := (hK.2 t _ (aTys_at ht)).2
    have h3 : s.vm.findClass ("[" ++ (newarray.typeOf atype).toString) = some (GA G t) := by
      revert h2
      unfold va_RA
      cases hh : newarray.typeOf atype with
      | object C => exact absurd hh (hprim C)
      | _ => exact fun h => h
    exact Option.some.inj (hNm.symm.trans h3)
  subst hcA
  refine kk H.size hP.1.fresh p e R s m args below meth c hF H1 locs ls (cells + 1) (slots + N) (Pt2.new (o := .inl (t, a0)) hamb hP ?_ z1 o1)
  show H1[H.size]? = some (vp_cell _ _)
  rw [ha]
  exact e1
theorem wp_newq {C : String} {idx t N : Nat} {x : Int32} (hd : decode (mB y) pc = .ok (.anewarray idx, 3)) (ht : aTy[t]? = some (.object C)) (hw : GoodIn lw_tbl [Cond.classLink (mN y).cls idx C]) (hov : va_AO C (Gs G)) (hx0 : ¬ x < 0) (hN : x.toNatClampNeg = N) (hbytes : N * 4 ≤ 536870912)
    (kk : ∀ q : Nat, h q = none → WP G y B (pc + 3) lv (.ref q :: st) (hup h q (.inl (t, N, .inr (.inr (.inr (.inr (fun _ => none))))))) k n) : WP G y B pc lv (.int x :: st) h (k + 1) (n + N) := by
  intro p e R s m args below meth c hF H locs ls cells slots hP
  obtain ⟨hx, hb, -, -, hown, -, -, -, hamb, -, -, hRk, hRn, hG⟩ := id hF
  have hK := hG.K hamb
  have hPk := hP.2.2.2.2.2.1
  have hPn := hP.2.2.2.2.2.2.1
  subst hN
  refine W.anew hx hb hown (hG.words hamb hw _ List.mem_cons_self) (va_AO.use (va_AO.moved hamb.1.alike hov)) rfl hd rfl hx0 hbytes (by omega) (by omega) fun cA kA comp f1 f2 f3 f4 => ?_
  have hcA : cA = GA G t := by
    obtain ⟨_, _, _, _, _, h4⟩ := (hK.2 t _ (aTys_at ht)).2
    exact Option.some.inj (f1.symm.trans h4)
  subst hcA
  generalize hH1 : H.push ({ cls := GA G t, slots := Array.replicate x.toNatClampNeg .null, vm := .none } : Cell) = H1
  have z1 : H1.size = H.size + 1 := by rw [← hH1, Array.size_push]
  have e1 : H1[H.size]? = some (arrV (GA G t) x.toNatClampNeg (fun _ => .null)) := by rw [← hH1, Array.getElem?_push_size, ← arrV_new]
  have o1 : ∀ q : Nat, q < H.size → H1[q]? = H[q]? := fun q hq => by rw [← hH1, Array.getElem?_push, if_neg (Nat.ne_of_lt hq)]
  refine kk H.size hP.1.fresh p e R s m args below meth c hF H1 locs ls (cells + 1) (slots + x.toNatClampNeg) (Pt2.new (o := .inl (t, x.toNatClampNeg, .inr (.inr (.inr (.inr (fun _ => none)))))) hamb hP ?_ z1 o1)
  show H1[H.size]? = some (vp_cell _ _)
  rw [vp_cell_q]
  exact e1
theorem wp_iret {v : Int32} (hd : decode (mB y) pc = .ok (.ireturn, 1)) (hr : mR y = some .int) (hq : BQ B (.inl (some (.int v))) h) : WP G y B pc lv [.int v] h k n := by
  intro p e R s m args below meth c hF H locs ls cells slots hP
  obtain ⟨hx, hb, -, -, hown, -, -, -, hamb, -, -, hRk, hRn, hG⟩ := id hF
  intro T hT X
  have hlocks : meth.locks = false := hF.2.2.2.2.2.1
  obtain ⟨t, ha, o, h1, h2, h3, L, ⟨-, hWm, hs⟩, hL⟩ := W.iret (v := v) (Qc := CQ G B s.heap.size) (free := AA (Bh B) s.heap.size) hx hb (hF.2.2.1.trans hr) (fun t ht hW => ⟨⟨.inl (some (.int v)), h, rfl, hq, by rw [ht]; exact hP.1, hP.2.1, hP.2.2.1⟩, hP.2.2.2.1.F ht⟩) hP.2.2.2.1.2.2 hd hlocks T hT X
  exact ⟨t, ha, o, h1, h2, h3, L, ⟨hWm, hs.mono (by have := hP.2.2.2.2.2.1; omega) (by have := hP.2.2.2.2.2.2.1; omega)⟩, hL⟩
theorem wp_lret {v : Int64} (hd : decode (mB y) pc = .ok (.lreturn, 1)) (hr : mR y = some .long) (hq : BQ B (.inl (some (.long v))) h) : WP G y B pc lv [.long v] h k n := by
  intro p e R s m args below meth c hF H locs ls cells slots hP
  obtain ⟨hx, hb, -, -, hown, -, -, -, hamb, -, -, hRk, hRn, hG⟩ := id hF
  intro T hT X
  have hlocks : meth.locks = false := hF.2.2.2.2.2.1
  obtain ⟨t, ha, o, h1, h2, h3, L, ⟨-, hWm, hs⟩, hL⟩ := W.lret (v := v) (Qc := CQ G B s.heap.size) (free := AA (Bh B) s.heap.size) hx hb (hF.2.2.1.trans hr) (fun t ht hW => ⟨⟨.inl (some (.long v)), h, rfl, hq, by rw [ht]; exact hP.1, hP.2.1, hP.2.2.1⟩, hP.2.2.2.1.F ht⟩) hP.2.2.2.1.2.2 hd hlocks T hT X
  exact ⟨t, ha, o, h1, h2, h3, L, ⟨hWm, hs.mono (by have := hP.2.2.2.2.2.1; omega) (by have := hP.2.2.2.2.2.2.1; omega)⟩, hL⟩
theorem wp_zret {v : Int32} {ty : FieldType} (hd : decode (mB y) pc = .ok (.ireturn, 1)) (hr : mR y = some ty) (hn : narrow ty (.int v) = .int v) (hq : BQ B (.inl (some (.int v))) h) : WP G y B pc lv [.int v] h k n := by
  intro p e R s m args below meth c hF H locs ls cells slots hP
  obtain ⟨hx, hb, -, -, hown, -, -, -, hamb, -, -, hRk, hRn, hG⟩ := id hF
  intro T hT X
  have hlocks : meth.locks = false := hF.2.2.2.2.2.1
  obtain ⟨t, ha, o, h1, h2, h3, L, ⟨-, hWm, hs⟩, hL⟩ := W.zret (v := v) (Qc := CQ G B s.heap.size) (free := AA (Bh B) s.heap.size) hx hb (hF.2.2.1.trans hr) hn (fun t ht hW => ⟨⟨.inl (some (.int v)), h, rfl, hq, by rw [ht]; exact hP.1, hP.2.1, hP.2.2.1⟩, hP.2.2.2.1.F ht⟩) hP.2.2.2.1.2.2 hd hlocks T hT X
  exact ⟨t, ha, o, h1, h2, h3, L, ⟨hWm, hs.mono (by have := hP.2.2.2.2.2.1; omega) (by have := hP.2.2.2.2.2.2.1; omega)⟩, hL⟩
theorem wp_vret (hd : decode (mB y) pc = .ok (.return_, 1)) (hr : mR y = none) (hq : BQ B (.inl none) h) : WP G y B pc lv [] h k n := by
  intro p e R s m args below meth c hF H locs ls cells slots hP
  obtain ⟨hx, hb, -, -, hown, -, -, -, hamb, -, -, hRk, hRn, hG⟩ := id hF
  intro T hT X
  have hlocks : meth.locks = false := hF.2.2.2.2.2.1
  obtain ⟨t, ha, o, h1, h2, h3, L, ⟨-, hWm, hs⟩, hL⟩ := W.vret (Qc := CQ G B s.heap.size) (free := AA (Bh B) s.heap.size) hx hb (hF.2.2.1.trans hr) (fun t ht hW => ⟨⟨.inl none, h, rfl, hq, by rw [ht]; exact hP.1, hP.2.1, hP.2.2.1⟩, hP.2.2.2.1.F ht⟩) hP.2.2.2.1.2.2 hd hlocks T hT X
  exact ⟨t, ha, o, h1, h2, h3, L, ⟨hWm, hs.mono (by have := hP.2.2.2.2.2.1; omega) (by have := hP.2.2.2.2.2.2.1; omega)⟩, hL⟩
theorem wp_aret {v : Value} {rt : FieldType} (hd : decode (mB y) pc = .ok (.areturn, 1)) (hr : mR y = some rt) (hrt : (∃ n, rt = .object n) ∨ ∃ t, rt = .array t) (hv : v = .null ∨ ∃ a, v = .ref a) (hq : BQ B (.inl (some v)) h) : WP G y B pc lv [v] h k n := by
  intro p e R s m args below meth c hF H locs ls cells slots hP
  obtain ⟨hx, hb, -, -, hown, -, -, -, hamb, -, -, hRk, hRn, hG⟩ := id hF
  intro T hT X
  have hlocks : meth.locks = false := hF.2.2.2.2.2.1
  obtain ⟨t, ha, o, h1, h2, h3, L, ⟨-, hWm, hs⟩, hL⟩ := W.aret (v := v) (Qc := CQ G B s.heap.size) (free := AA (Bh B) s.heap.size) hx hb (hF.2.2.1.trans hr) hrt hv (fun t ht hW => ⟨⟨.inl (some v), h, rfl, hq, by rw [ht]; exact hP.1, hP.2.1, hP.2.2.1⟩, hP.2.2.2.1.F ht⟩) hP.2.2.2.1.2.2 hd hlocks T hT X
  exact ⟨t, ha, o, h1, h2, h3, L, ⟨hWm, hs.mono (by have := hP.2.2.2.2.2.1; omega) (by have := hP.2.2.2.2.2.2.1; omega)⟩, hL⟩
end ArrRules
