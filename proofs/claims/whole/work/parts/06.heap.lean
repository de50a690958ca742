section HeapRules
theorem AW.put {D : va_G} {dA : Nat → ClassId} {h : AHp} {H H1 : Heap} {a : Nat} {o : AObj} (hW : AW D dA h H) (he : va_at D vwCl (a, aE dA o) H1) (oq : ∀ q : Nat, q ≠ a → H1[q]? = H[q]?) : AW D dA (hup h a o) H1 := by
  intro q o' hq
  by_cases hqa : q = a
  · subst hqa
    rw [hup_eq] at hq
    cases hq
    exact he
  · rw [hup_ne hqa] at hq
    exact (hW q o' hq).kept (oq q hqa)
theorem AW.fresh {D : va_G} {dA : Nat → ClassId} {h : AHp} {H : Heap} (hW : AW D dA h H) : h H.size = none := by
  cases hq : h H.size with
  | none => rfl
  | some o => exact absurd ((hW _ o hq).lt) (Nat.lt_irrefl _)
theorem AW.lt {D : va_G} {dA : Nat → ClassId} {h : AHp} {H : Heap} (hW : AW D dA h H) {a : Nat} (ha : h a ≠ none) : a < H.size := by
  cases hq : h a with
  | none => exact absurd hq ha
  | some o => exact (hW _ o hq).lt
theorem AW.new {D : va_G} {dA : Nat → ClassId} {h : AHp} {H H1 : Heap} {o : AObj} (hW : AW D dA h H) (he : va_at D vwCl (H.size, aE dA o) H1) (oq : ∀ q : Nat, q < H.size → H1[q]? = H[q]?) : AW D dA (hup h H.size o) H1 := by
  intro q o' hq
  by_cases hqa : q = H.size
  · subst hqa
    rw [hup_eq] at hq
    cases hq
    exact he
  · rw [hup_ne hqa] at hq
    exact (hW q o' hq).kept (oq q ((hW q o' hq).lt))
theorem hup_dom {h : AHp} {a q : Nat} {o : AObj} (h1 : hup h a o q ≠ none) : q = a ∨ h q ≠ none := by
  by_cases hqa : q = a
  · exact Or.inl hqa
  · rw [hup_ne hqa] at h1
    exact Or.inr h1
theorem AW.one {D : va_G} {dA : Nat → ClassId} {h : AHp} {H : Heap} (hW : AW D dA h H) {a : Nat} {o : AObj} (ha : h a = some o) : va_P D vwCl [(a, aE dA o)] H := by
  intro k q hk
  have hz : k < 1 := (List.getElem?_eq_some_iff.mp hk).1
  rw [show k = 0 by omega] at hk
  cases hk
  exact hW a o ha
theorem Amb.word {s0 U : State} {a0 a' : Array Value} (hA : Amb s0 U) {w : Cond} (hw : (w.onTables && w.keeps) = true ∨ ∃ ty, w = .arrayClass ty) (h : w.before a0 s0 = true) : w.before a' U = true := word_at hA.1 hw h
theorem Gk.words {G : Gt} (hG : Gk G) {U : State} (hA : Amb (Gs G) U) {a' : Array Value} {ws : List Cond} (hg : GoodIn lw_tbl ws) : ∀ w ∈ ws, w.before a' U = true := fun w hw => hA.word (hg w hw).2 (hG.1 w (hg w hw).1)
theorem Gk.K {G : Gt} (hG : Gk G) {U : State} (hA : Amb (Gs G) U) : va_K (GD G) vwCl (aTys (GA G)) U := va_K.moved hA.1.alike hG.2.1
variable {G : Gt} {y : Mi} {B : Bt} {pc : Nat} {lv : List (Nat × Value)} {st : List Value} {h : AHp} {k n : Nat}
theorem wp_get {C : String} {T : u_T} {N ci idx a : Nat} {fs : List Value} {v : Value} (hd : decode (mB y) pc = .ok (.getfield idx, 3)) (ha : h a = some (.inr (ci, fs))) (hc : vwCl[ci]? = some (C, T, N)) (hg : GoodIn lw_tbl (u_ws C T N)) (j : Nat) (hj : j < N) (hw : GoodIn lw_tbl [Cond.fieldLink (mN y).cls idx (T j).1 (T j).2.1 (T j).2.2.1]) (hv : fs[j]? = some v)
    (kk : WP G y B (pc + 3) lv (v :: st) h k n) : WP G y B pc lv (.ref a :: st) h k n := by
  intro p e R s m args below meth c hF H locs ls cells slots hP
  obtain ⟨hx, hb, -, -, hown, -, -, -, hamb, -, -, -, -, hG⟩ := id hF
  exact va_get (D := GD G) (cl := vwCl) (tys := aTys (GA G)) (ws := [(a, .inr (ci, fs))]) hx hb (hG.words hamb hg) (fun _ h9 => h9) hown (hG.K hamb) (hP.1.one ha) 0 rfl hc j hj (hG.words hamb hw _ List.mem_cons_self) (fun _ h9 => h9) hv hd (kk p e R s m args below meth c hF H locs ls cells slots hP)
theorem wp_put {C : String} {T : u_T} {N ci idx a : Nat} {fs : List Value} {v : Value} {ty : FieldType} (hd : decode (mB y) pc = .ok (.putfield idx, 3)) (ha : h a = some (.inr (ci, fs))) (hc : vwCl[ci]? = some (C, T, N)) (hg : GoodIn lw_tbl (u_ws C T N)) (ty0 : Nat → FieldType) (hty : ∀ k, k < N → parseFieldDescriptor (T k).2.2.1 = some (ty0 k)) (hnm : ∀ a, a < N → ∀ b, b < N → a ≠ b → (T a).2.1 ≠ (T b).2.1)
    (j : Nat) (hj : j < N) (hw : GoodIn lw_tbl [Cond.fieldLink (mN y).cls idx (T j).1 (T j).2.1 (T j).2.2.1]) (hfin : (T j).2.2.2 = false) (hde : parseFieldDescriptor (T j).2.2.1 = some ty) (hn : narrow ty v = v) (hfit : fits ty v = true) (hl : j < fs.length)
    (kk : WP G y B (pc + 3) lv st (hup h a (.inr (ci, fs.set j v))) k n) : WP G y B pc lv (v :: .ref a :: st) h k n := by
  intro p e R s m args below meth c hF H locs ls cells slots hP
  obtain ⟨hx, hb, -, -, hown, -, -, -, hamb, -, -, -, -, hG⟩ := id hF
  have hK := hG.K hamb
  have hts := hG.words (a' := args) hamb hg
  have hap := va_apart (own := C) hts (fun _ h9 => h9) ty0 hty hnm hK hc
  obtain ⟨r, h1, cell, q1, q2, q3, q4⟩ := hP.1 a _ ha
  have hr : r = (C, T, N) := Option.some.inj (h1.symm.trans hc)
  subst hr
  obtain ⟨hS, hfc, kC, hkC, hkind⟩ := hK.1 ci _ hc
  obtain ⟨cf, kf, fi, f, hi, hsl⟩ := hS j hj
  have hlay := hts _ (u_in_lay hj)
  unfold u_lay at hlay
  rw [if_neg (by rw [hfin]; decide)] at hlay
  have hst := (u_facts hfc hkC (u_lays hts (fun _ h9 => h9) hj) hi).1
  have h6 := u_store hfc hkC hkind hlay hi hde hn hfit
  refine W.putK hx hb (f := f) ⟨hown, hG.words hamb hw _ List.mem_cons_self, ⟨_, _, _, hi⟩, hst⟩ (by rw [q2]; exact h6) q1 q3 (by rw [hsl]; exact k2_hasslot (q4 j hj)) rfl rfl hd fun H' e1 e2 e3 => ?_
  rw [hsl] at e1 ⊢
  refine kk p e R s m args below meth c hF H' _ ls cells slots ⟨hP.1.put (o := .inr (ci, fs.set j v)) ⟨_, hc, t_OB.to (V := updV (vp_V fs) j v) ⟨_, e1, q2, q3, t_set q4 hap hj v⟩ (fun i _ => vp_updV_set hl v i)⟩ e3, ?_, ?_, hP.2.2.2.1.put e2 e3 (hP.2.2.1 a (by rw [ha]; simp)), hP.2.2.2.2⟩
  · intro q hq
    rcases hup_dom hq with rfl | hq
    · exact hP.2.1 _ (by rw [ha]; simp)
    · exact hP.2.1 q hq
  · intro q hq
    rcases hup_dom hq with rfl | hq
    · exact hP.2.2.1 _ (by rw [ha]; simp)
    · exact hP.2.2.1 q hq
theorem wp_putF {C : String} {T : u_T} {N ci idx a : Nat} {fs : List Value} {v : Value} {ty : FieldType} (hd : decode (mB y) pc = .ok (.putfield idx, 3)) (ha : h a = some (.inr (ci, fs))) (hc : vwCl[ci]? = some (C, T, N)) (hg : GoodIn lw_tbl (u_ws C T N)) (ty0 : Nat → FieldType) (hty : ∀ k, k < N → parseFieldDescriptor (T k).2.2.1 = some (ty0 k)) (hnm : ∀ a, a < N → ∀ b, b < N → a ≠ b → (T a).2.1 ≠ (T b).2.1)
    (j : Nat) (hj : j < N) (hw : GoodIn lw_tbl [Cond.fieldLink (mN y).cls idx (T j).1 (T j).2.1 (T j).2.2.1]) (hfin : (T j).2.2.2 = true) (hinit : (mN y).name = "<init>") (hdecl : (T j).1 = (mN y).cls) (hde : parseFieldDescriptor (T j).2.2.1 = some ty) (hn : narrow ty v = v) (hfit : fits ty v = true) (hl : j < fs.length)
    (kk : WP G y B (pc + 3) lv st (hup h a (.inr (ci, fs.set j v))) k n) : WP G y B pc lv (v :: .ref a :: st) h k n := by
  intro p e R s m args below meth c hF H locs ls cells slots hP
  obtain ⟨hx, hb, -, -, hown, -, hmn, -, hamb, -, -, -, -, hG⟩ := id hF
  have hK := hG.K hamb
  have hts := hG.words (a' := args) hamb hg
  have hap := va_apart (own := C) hts (fun _ h9 => h9) ty0 hty hnm hK hc
  obtain ⟨r, h1, cell, q1, q2, q3, q4⟩ := hP.1 a _ ha
  have hr : r = (C, T, N) := Option.some.inj (h1.symm.trans hc)
  subst hr
  obtain ⟨hS, hfc, kC, hkC, hkind⟩ := hK.1 ci _ hc
  obtain ⟨cf, kf, fi, f, hi, hsl⟩ := hS j hj
  have hlay := hts _ (u_in_lay hj)
  unfold u_lay at hlay
  rw [if_pos hfin] at hlay
  have hst := (u_facts hfc hkC (u_lays hts (fun _ h9 => h9) hj) hi).1
  have hcf : m.cls = cf := by
    obtain ⟨_, _, c', _, _, _, -, -, hf', -, -, -, hown2, -⟩ := Cond.laysFinal_spec hlay
    have e1 : c' = cf := by have := hi.symm.trans hf'; simp at this; exact this.1.symm
    rw [hdecl] at hown2
    rw [← e1]; exact Option.some.inj (hown.symm.trans hown2)
  have h6 := u_fits hfc hkC hkind (Or.inr hlay) hi hde hn hfit
  refine W.putFinK hx hb hown (hG.words hamb hw _ List.mem_cons_self) hi hst hcf (hmn.trans hinit) (by rw [q2]; exact h6) q1 q3 (by rw [hsl]; exact k2_hasslot (q4 j hj)) rfl rfl hd fun H' e1 e2 e3 => ?_
  rw [hsl] at e1 ⊢
  refine kk p e R s m args below meth c hF H' _ ls cells slots ⟨hP.1.put (o := .inr (ci, fs.set j v)) ⟨_, hc, t_OB.to (V := updV (vp_V fs) j v) ⟨_, e1, q2, q3, t_set q4 hap hj v⟩ (fun i _ => vp_updV_set hl v i)⟩ e3, ?_, ?_, hP.2.2.2.1.put e2 e3 (hP.2.2.1 a (by rw [ha]; simp)), hP.2.2.2.2⟩
  · intro q hq
    rcases hup_dom hq with rfl | hq
    · exact hP.2.1 _ (by rw [ha]; simp)
    · exact hP.2.1 q hq
  · intro q hq
    rcases hup_dom hq with rfl | hq
    · exact hP.2.2.1 _ (by rw [ha]; simp)
    · exact hP.2.2.1 q hq
theorem Pt2.new {s : State} {H H1 : Heap} {locs : List Loc} {ls : Array Slot} {cells slots N : Nat} {o : AObj} (hamb : Amb (Gs G) s) (hP : Pt2 G y B s H locs ls lv h (k + 1) (n + N) cells slots) (he : va_at (GD G) vwCl (H.size, aE (GA G) o) H1) (hz : H1.size = H.size + 1) (oq : ∀ q : Nat, q < H.size → H1[q]? = H[q]?) : Pt2 G y B s H1 locs ls lv (hup h H.size o) k n (cells + 1) (slots + N) := by
  obtain ⟨h1, h2, h3, h4, h5, h6, h7, h8⟩ := hP
  have hsz : s.heap.size ≤ H.size := h4.1
  refine ⟨h1.new he oq, ?_, ?_, ⟨by omega, fun q hq hA => (oq q (by omega)).trans (h4.2.1 q hq hA), h4.2.2⟩, h5, by omega, by omega, h8⟩
  · intro q hq
    rcases hup_dom hq with rfl | hq
    · exact Nat.le_trans hamb.2.1 hsz
    · exact h2 q hq
  · intro q hq
    rcases hup_dom hq with rfl | hq
    · exact Or.inr hsz
    · exact h3 q hq
theorem wp_new {C : String} {T : u_T} {N ci idx : Nat} {fs : List Value} (hd : decode (mB y) pc = .ok (.new idx, 3)) (hc : vwCl[ci]? = some (C, T, N)) (hg : GoodIn lw_tbl (u_ws C T N)) (ty0 : Nat → FieldType) (hty : ∀ k, k < N → parseFieldDescriptor (T k).2.2.1 = some (ty0 k)) (hw : GoodIn lw_tbl [Cond.classLink (mN y).cls idx C, .instantiable C N, .initialized C]) (hfs : ∀ j, j < N → defaultValue (ty0 j) = vp_V fs j)
    (kk : ∀ q : Nat, h q = none → WP G y B (pc + 3) lv (.ref q :: st) (hup h q (.inr (ci, fs))) k n) : WP G y B pc lv st h (k + 1) (n + N) := by
  intro p e R s m args below meth c hF H locs ls cells slots hP
  obtain ⟨hx, hb, -, -, hown, -, -, -, hamb, -, -, hRk, hRn, hG⟩ := id hF
  have hKn := (hG.K hamb).1 ci _ hc
  have hts := hG.words (a' := args) hamb hg
  have hws := hG.words (a' := args) hamb hw
  have hPk := hP.2.2.2.2.2.1
  have hPn := hP.2.2.2.2.2.2.1
  refine W.newcK hx hb hown (hws _ List.mem_cons_self) (hws _ (List.mem_cons_of_mem _ List.mem_cons_self)) (hws _ (List.mem_cons_of_mem _ (List.mem_cons_of_mem _ List.mem_cons_self))) rfl hd (by omega) (by omega) hKn.2.1 rfl fun H1 kC hkC e1 z1 o1 => ?_
  exact kk H.size hP.1.fresh p e R s m args below meth c hF H1 locs ls (cells + 1) (slots + N) (Pt2.new (o := .inr (ci, fs)) hamb hP ⟨_, hc, (u_born ty0 hts (fun _ h9 => h9) hKn hkC e1 hty).to hfs⟩ z1 o1)
end HeapRules
