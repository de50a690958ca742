section CallRules
/-- the word of a method's code stands in the tables -/
def mOK (y : Mi) : Prop := (mH y = [] ∧ GoodIn lw_tbl [Cond.code (mN y) (mB y) (mL y) (mR y)]) ∨ GoodIn lw_tbl [Cond.codeWith (mN y) (mB y) (mL y) (mR y) (mH y)]
theorem mOK.at {G : Gt} {y : Mi} (h : mOK y) (hG : Gk G) {U : State} (hA : Amb (Gs G) U) : ∃ mk meth c, U.methodNamed? (mN y) = some mk ∧ U.vm.method? mk = some meth ∧ meth.code = some c ∧ c.code = mB y ∧ c.maxLocals = mL y ∧ c.exceptionTable.toList.map (fun h => (h.startPc, h.endPc, h.handlerPc, h.catchType)) = mH y ∧ meth.sig.returnType = mR y ∧ meth.locks = false ∧ parseMethodDescriptor (mN y).desc = some meth.sig := by
  rcases h with ⟨h0, h⟩ | h
  · have hw := hG.words (a' := #[]) hA h _ List.mem_cons_self
    obtain ⟨mk, hn⟩ := Cond.code_named hw
    obtain ⟨meth, c, h1, h2, h3, h4, h5, h6, h7, h8⟩ := Cond.code_spec hn hw
    refine ⟨mk, meth, c, hn, h1, h2, h3, h4, ?_, h5, h6, h8⟩
    rw [h0]
    have : c.exceptionTable = #[] := by simpa using h7
    rw [this]
    rfl
  · obtain ⟨mk, meth, c, h1, h2, h3, h4, h5, h6, h7, h8, h9⟩ := Cond.codeWith_spec (hG.words (a' := #[]) hA h _ List.mem_cons_self)
    exact ⟨mk, meth, c, h1, h2, h3, h4, h5, h6, h7, h8, h9⟩
/-- what a call leaves behind, at the caller -/
def Aft (G : Gt) (h : AHp) (T T' : State) (L : List Loc) (h' : AHp) : Prop :=
  AW (GD G) (GA G) h' T'.heap ∧ Lo (Gs G).heap.size h' ∧ (∀ a, h' a ≠ none → AA h T.heap.size a) ∧ T.heap.size ≤ T'.heap.size ∧ (∀ q : Nat, q < T.heap.size → ¬ AA h T.heap.size q → T'.heap[q]? = T.heap[q]?) ∧ ∀ q ∈ L, AA h T.heap.size q.base
variable {G : Gt} {p : Program} {e : Env} {R : Room} {s : State} {m : MethodId} {args : Array Value} {below : List Frame} {meth : Method} {c : Code} {T : State} {locs : List Loc} {cells slots : Nat}
theorem inv_core {y' : Mi} {d' w' r k' n' : Nat} {av : List Value} {h : AHp} {Q' : ARes → AHp → Prop} (hC : CallS G y' d' w' av h k' n' Q') (X : Stand p (Gl G) e R s m args below meth c T locs cells slots) (hx : p.tables.exec = Jvm.exec) (hG : Gk G) (hT : Amb (Gs G) T) (hAW : AW (GD G) (GA G) h T.heap) (hLo : Lo (Gs G).heap.size h)
    {g : JFrame} (hg : g.method = m) (hsize : g.locals.size = c.maxLocals) {ig : Instr} {len : Nat} (hdg : decode c.code g.pc = .ok (ig, len)) (hW8 : 2 * g.monitorRoom + (g.stack.map fun v => v.category).sum ≤ r)
    {mk : MethodId} (hn : T.methodNamed? (mN y') = some mk) (hpn : plainName (mN y').cls = true) (hmo : mOK y') (hd1 : d' + 1 ≤ R.frames) (hd2 : r + (mL y' + 11) + w' ≤ R.locals) (hd3 : cells + k' ≤ R.cells) (hd4 : slots + n' ≤ R.slots) :
    (∃ (v : Option Value) (h' : AHp) (T' : State) (L : List Loc), Q' (.inl v) h' ∧ Stand p (Gl G) e R s m args below meth c T' (locs ++ L) (cells + k') (slots + n') ∧ Aft G h T T' L h' ∧ ∀ acts, Steps p.tables e below (doInvoke e (T.setTop g) acts mk av.toArray).1 (T'.setTop { g with pc := g.pc + len, stack := v.toList ++ g.stack })) ∨
    (∃ (x : Nat) (a : Nat) (cell : Cell) (h' : AHp) (T' : State) (L : List Loc), Q' (.inr x) h' ∧ Stand p (Gl G) e R s m args below meth c T' (locs ++ L) (cells + k') (slots + n') ∧ Aft G h T T' L h' ∧ T'.heap[a]? = some cell ∧ cell.vm = .none ∧ (Gs G).vm.findClass (excN x) = some cell.cls ∧ ∀ acts, Steps p.tables e below (doInvoke e (T.setTop g) acts mk av.toArray).1 ((T'.setTop g).pushFrame (.throwing a))) := by
  obtain ⟨mk', methk, ck, hn', hmk, hck, hcb, hcl, hct, hret, hlk, hsig⟩ := hmo.at hG hT
  cases hn.symm.trans hn'
  have hpk : T.plainMethod mk := by
    intro kq hkq
    obtain ⟨k1, hk1, hnm⟩ := className_of_methodNamed hn
    cases hk1.symm.trans hkq
    rw [hnm, hpn]
    rfl
  obtain ⟨Y, hin⟩ := X.into hg hsize hdg av.toArray (R' := { frames := d', cells := k', slots := n', locals := w' }) hmk hck hlk hpk hd1 (by rw [hcl]; show _ + _ + w' ≤ _; omega) hd3 hd4
  generalize hU : (T.setTop g).pushFrame (.java (entryFrame mk av.toArray ck.maxLocals)) = U at Y hin
  have hUh : U.heap = T.heap := by rw [← hU]; rfl
  have hcv : (T.calling g mk av.toArray).vm = T.vm := rfl
  have hch : (T.calling g mk av.toArray).heap = T.heap := rfl
  have hF : Fr G y' (d', w', k', n', h, Q') p { frames := d', cells := k', slots := n', locals := w' } (T.calling g mk av.toArray) mk methk ck :=
    ⟨hx, hcb, hret, hcl, findClass_of_methodNamed (s := T) hn, hlk, (name_of_methodNamed hn hmk).1, hct, hT, Nat.le_refl _, Nat.le_refl _, Nat.le_refl _, Nat.le_refl _, hG⟩
  have hw := hC p e _ (T.calling g mk av.toArray) mk av.toArray (.java g :: below) methk ck hF hAW hLo
  rw [← hcl] at hw
  obtain ⟨t, hst, o, hrun, hend, ⟨⟨r, h', hao, hQ, hAW', hLo', hdom⟩, hFr⟩, L, ⟨hWm, hsame⟩, hL⟩ := hw U hUh Y
  have hwk : Steps p.tables e below (U.setTop (entryFrame mk av.toArray ck.maxLocals)) t := Steps.weaken (mid := [.java g]) hst
  cases r with
  | inl v =>
    have ho : o = .returned v := hao
    subst ho
    obtain ⟨T', X', hW', hB', ht⟩ := X.outOf hg hdg hend hWm hsame
    have hh : T'.heap = t.heap := by rw [ht]; simp
    refine Or.inl ⟨v, h', T', L, hQ, X', ⟨by rw [hh]; exact hAW', hLo', hdom, by rw [hh]; exact hFr.1, fun q h1 h2 => by rw [hh]; exact hFr.2 q h1 h2, hL⟩, fun acts => ?_⟩
    rw [hin acts, ← ht]
    exact hwk
  | inr x =>
    obtain ⟨a, cell, ho, hc1, hc2, hc3⟩ := hao
    subst ho
    obtain ⟨T', X', hW', hB', ht⟩ := X.outOfThrown hg hend hWm hsame
    have hh : T'.heap = t.heap := by rw [ht]; exact (Stand.throwing_heap T' g a).symm
    refine Or.inr ⟨x, a, cell, h', T', L, hQ, X', ⟨by rw [hh]; exact hAW', hLo', hdom, by rw [hh]; exact hFr.1, fun q h1 h2 => by rw [hh]; exact hFr.2 q h1 h2, hL⟩, by rw [hh]; exact hc1, hc2, hc3, fun acts => ?_⟩
    rw [hin acts, ← ht]
    exact hwk
/-- the caller's point behind a call -/
theorem Pt2.aft {y : Mi} {B : Bt} {lv : List (Nat × Value)} {h h' : AHp} {k n k' n' : Nat} {H : Heap} {ls : Array Slot} {T' : State} {L : List Loc} (hP : Pt2 G y B s H locs ls lv h (k + k') (n + n') cells slots) (hTH : T.heap = H) (hA : Aft G h T T' L h') : Pt2 G y B s T'.heap (locs ++ L) ls lv h' k n (cells + k') (slots + n') := by
  obtain ⟨h1, h2, h3, h4, h5, h6, h7, h8⟩ := hP
  obtain ⟨a1, a2, a3, a4, a5, a6⟩ := hA
  rw [hTH] at a3 a4 a5 a6
  have hAA : ∀ q, AA h H.size q → AA (Bh B) s.heap.size q := fun q hq => by
    rcases hq with hq | hq
    · exact h3 q hq
    · exact Or.inr (Nat.le_trans h4.1 hq)
  refine ⟨a1, a2, fun a ha => hAA a (a3 a ha), ⟨Nat.le_trans h4.1 a4, fun q hq hn => ?_, fun q hq => ?_⟩, h5, by omega, by omega, h8⟩
  · rw [a5 q (Nat.lt_of_lt_of_le hq h4.1) (fun hq2 => hn (hAA q hq2))]
    exact h4.2.1 q hq hn
  · rcases List.mem_append.mp hq with hq | hq
    · exact h4.2.2 q hq
    · exact hAA _ (a6 q hq)
/-- the caller's surroundings at a point -/
theorem Pt2.amb {y : Mi} {B : Bt} {lv : List (Nat × Value)} {h : AHp} {k n : Nat} {H : Heap} {ls : Array Slot} (hP : Pt2 G y B s H locs ls lv h k n cells slots) (hA : Amb (Gs G) s) (X : Stand p (Gl G) e R s m args below meth c T locs cells slots) (hTH : T.heap = H) : Amb (Gs G) T := by
  obtain ⟨h1, h2, h3, h4, h5, h6, h7, h8⟩ := hP
  refine ⟨State.WarmedH.trans hA.1 X.warmed, by rw [hTH]; exact Nat.le_trans hA.2.1 h4.1, fun q hq => ?_⟩
  rw [hTH, h4.2.1 q (Nat.lt_of_lt_of_le hq hA.2.1) (fun hq2 => ?_)]
  · exact hA.2.2 q hq
  · rcases hq2 with hq2 | hq2
    · exact absurd (h8.1 q hq2) (Nat.not_le.mpr hq)
    · exact absurd (Nat.le_trans hA.2.1 hq2) (Nat.not_le.mpr hq)
/-- the handler that catches an exception x, thrown at pc: the first entry that covers pc and names its class -/
def hFind (hs : List (Nat × Nat × Nat × Nat)) (cn : Nat → Option Nat) (pc x : Nat) : Option Nat := match hs with
  | [] => none
  | q :: r => if q.1 ≤ pc ∧ pc < q.2.1 then (if cn q.2.2.2 = some x then some q.2.2.1 else hFind r cn pc x) else hFind r cn pc x
end CallRules
