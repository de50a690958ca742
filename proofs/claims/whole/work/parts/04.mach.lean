/-! THE MACHINE IN CLEAN WORDS. A world is a partial function from addresses to objects (AHp); WP says of a frame of a method, at a pc, with locals, stack and world, that it ends as promised. Every row of the kit is turned into a row of WP; no row behind this part speaks of machine states. -/
abbrev AObj : Type := (Nat × vp_A) ⊕ (Nat × List Value)
abbrev AHp : Type := Nat → Option AObj
abbrev ARes : Type := Option Value ⊕ Nat
abbrev Mi : Type := MethodName × ByteArray × Nat × Option FieldType × List (Nat × Nat × Nat × Nat)
abbrev mN (y : Mi) : MethodName := y.1
abbrev mB (y : Mi) : ByteArray := y.2.1
abbrev mL (y : Mi) : Nat := y.2.2.1
abbrev mR (y : Mi) : Option FieldType := y.2.2.2.1
abbrev mH (y : Mi) : List (Nat × Nat × Nat × Nat) := y.2.2.2.2
abbrev Gt : Type := Launch × Array Value × State × va_G × (Nat → ClassId)
abbrev Gl (G : Gt) : Launch := G.1
abbrev Ga (G : Gt) : Array Value := G.2.1
abbrev Gs (G : Gt) : State := G.2.2.1
abbrev GD (G : Gt) : va_G := G.2.2.2.1
abbrev GA (G : Gt) : Nat → ClassId := G.2.2.2.2
/-- frames, words, cells, slots, the world at entry, the promise -/
abbrev Bt : Type := Nat × Nat × Nat × Nat × AHp × (ARes → AHp → Prop)
abbrev Bd (B : Bt) : Nat := B.1
abbrev Bw (B : Bt) : Nat := B.2.1
abbrev Bk (B : Bt) : Nat := B.2.2.1
abbrev Bn (B : Bt) : Nat := B.2.2.2.1
abbrev Bh (B : Bt) : AHp := B.2.2.2.2.1
abbrev BQ (B : Bt) : ARes → AHp → Prop := B.2.2.2.2.2
def hup (h : AHp) (a : Nat) (o : AObj) : AHp := fun q => if q = a then some o else h q
theorem hup_eq (h : AHp) (a : Nat) (o : AObj) : hup h a o a = some o := by simp [hup]
theorem hup_ne {h : AHp} {a b : Nat} {o : AObj} (hne : b ≠ a) : hup h a o b = h b := by simp [hup, hne]
def aE (dA : Nat → ClassId) (o : AObj) : va_E := match o with
  | .inl x => .inl (dA x.1, x.2)
  | .inr x => .inr x
def AW (D : va_G) (dA : Nat → ClassId) (h : AHp) (H : Heap) : Prop := ∀ (a : Nat) (o : AObj), h a = some o → va_at D vwCl (a, aE dA o) H
def Lo (z : Nat) (h : AHp) : Prop := ∀ a : Nat, h a ≠ none → z ≤ a
def AA (h : AHp) (sz : Nat) : Nat → Prop := fun q => h q ≠ none ∨ sz ≤ q
def Amb (s0 U : State) : Prop := s0.WarmedH U.vm ∧ s0.heap.size ≤ U.heap.size ∧ ∀ q : Nat, q < s0.heap.size → U.heap[q]? = s0.heap[q]?
def excN : Nat → String := fun x => match x with
  | 0 => "java/lang/IllegalArgumentException"
  | _ => "java/lang/IllegalStateException"
def AOut (s0 : State) (r : ARes) (oc : Outcome) (t : State) : Prop := match r with
  | .inl v => oc = .returned v
  | .inr x => ∃ (a : Nat) (cell : Cell), oc = .threw a ∧ t.heap[a]? = some cell ∧ cell.vm = .none ∧ s0.vm.findClass (excN x) = some cell.cls
def MQT (below : List Frame) (Qc : Array Value → State → Outcome → State → Prop) (a : Array Value) (s : State) (mc ms : Nat) (free : Addr → Prop) : State → Prop := fun t =>
  ∃ o, t.status = .running ∧ Ended t below o ∧ Qc a s o t ∧ ∃ L, (s.WarmedH t.vm ∧ s.sameButNew ({ t with vm := s.vm } : State) L mc ms) ∧ ∀ q ∈ L, free q.base
def CQ (G : Gt) (B : Bt) (sz : Nat) : Array Value → State → Outcome → State → Prop := fun _ st oc t =>
  (∃ (r : ARes) (h' : AHp), AOut (Gs G) r oc t ∧ BQ B r h' ∧ AW (GD G) (GA G) h' t.heap ∧ Lo (Gs G).heap.size h' ∧ ∀ a, h' a ≠ none → AA (Bh B) sz a) ∧ va_F (AA (Bh B) sz) st t
/-- what is known of the start of all: the words of the tables, the classes and the arrays' classes -/
def aTys (dA : Nat → ClassId) : List (ClassId × FieldType) := (List.range aTy.length).map fun t => (dA t, aTy.getD t .int)
/-- a String of the start: its bytes, one a sign -/
def strOK (U : State) (a : Nat) (bs : List Nat) : Prop := va_O "java/lang/String" a (fun q => U.heap.size ≤ q) U U.heap ∧ va_OF "java/lang/String" "coder" "B" (.int 0) a (fun q => U.heap.size ≤ q) U U.heap ∧
  ∃ v : Nat, va_OF "java/lang/String" "value" "[B" (.ref v) a (fun q => U.heap.size ≤ q) U U.heap ∧ va_T .byte v bs.length (fun j => .int (nI (bs.getD j 0))) (fun q => U.heap.size ≤ q) U U.heap
def Gk (G : Gt) : Prop := (∀ w ∈ lw_tbl, w.before (Ga G) (Gs G) = true) ∧ va_K (GD G) vwCl (aTys (GA G)) (Gs G) ∧ (Gl G).stackTraces = false ∧
  vx_Zq Bundle.tN "UNASSIGNED_STACK" Bundle.steD (fun q => (Gs G).heap.size ≤ q) (Gs G) (Gs G).heap ∧ vx_Zq Bundle.tN "SUPPRESSED_SENTINEL" Bundle.listD (fun q => (Gs G).heap.size ≤ q) (Gs G) (Gs G).heap ∧
  va_Nc (excN 1) (excN 0) (Gs G) ∧ ∀ (own : String) (idx : Nat) (tx : String), Cond.stringRef own idx tx ∈ lw_tbl → ∃ a : Nat, vk_R own idx tx a (Gs G) ∧ strOK (Gs G) a (tx.toList.map Char.toNat)
/-- what is known of the frame that is walked -/
def Fr (G : Gt) (y : Mi) (B : Bt) (p : Program) (R : Room) (s : State) (m : MethodId) (meth : Method) (c : Code) : Prop :=
  p.tables.exec = Jvm.exec ∧ c.code = mB y ∧ meth.sig.returnType = mR y ∧ c.maxLocals = mL y ∧ s.vm.findClass (mN y).cls = some m.cls ∧ meth.locks = false ∧ meth.name = (mN y).name ∧
  c.exceptionTable.toList.map (fun h => (h.startPc, h.endPc, h.handlerPc, h.catchType)) = mH y ∧ Amb (Gs G) s ∧ Bd B ≤ R.frames ∧ Bw B ≤ R.locals ∧ Bk B ≤ R.cells ∧ Bn B ≤ R.slots ∧ Gk G
/-- what is known of the heap and the locals at a point -/
def Pt2 (G : Gt) (y : Mi) (B : Bt) (s : State) (H : Heap) (locs : List Loc) (ls : Array Slot) (lv : List (Nat × Value)) (h : AHp) (k n cells slots : Nat) : Prop :=
  AW (GD G) (GA G) h H ∧ Lo (Gs G).heap.size h ∧ (∀ a, h a ≠ none → AA (Bh B) s.heap.size a) ∧ va_S (AA (Bh B) s.heap.size) s.heap H locs ∧ lv_has ls (mL y) lv ∧ cells + k ≤ Bk B ∧ slots + n ≤ Bn B ∧ Lo (Gs G).heap.size (Bh B) ∧ AW (GD G) (GA G) (Bh B) s.heap
def WP (G : Gt) (y : Mi) (B : Bt) (pc : Nat) (lv : List (Nat × Value)) (st : List Value) (h : AHp) (k n : Nat) : Prop :=
  ∀ (p : Program) (e : Env) (R : Room) (s : State) (m : MethodId) (args : Array Value) (below : List Frame) (meth : Method) (c : Code), Fr G y B p R s m meth c →
  ∀ (H : Heap) (locs : List Loc) (ls : Array Slot) (cells slots : Nat), Pt2 G y B s H locs ls lv h k n cells slots →
    W p (Gl G) e R s m args below meth c H locs cells slots (MQT below (CQ G B s.heap.size) args s (Bk B) (Bn B) (AA (Bh B) s.heap.size)) (F0 m pc ls st)
/-- a call of a method: with these arguments, in this world, within so many cells and slots, it ends as promised -/
def CallS (G : Gt) (y : Mi) (d w : Nat) (av : List Value) (h : AHp) (k n : Nat) (Q : ARes → AHp → Prop) : Prop :=
  ∀ (p : Program) (e : Env) (R : Room) (s : State) (m : MethodId) (args : Array Value) (below : List Frame) (meth : Method) (c : Code), Fr G y (d, w, k, n, h, Q) p R s m meth c → AW (GD G) (GA G) h s.heap → Lo (Gs G).heap.size h →
    W p (Gl G) e R s m args below meth c s.heap [] 0 0 (MQT below (CQ G (d, w, k, n, h, Q) s.heap.size) args s k n (AA h s.heap.size)) (entryFrame m av.toArray (mL y))
theorem CallS.of {G : Gt} {y : Mi} {d w : Nat} {av : List Value} {h : AHp} {k n : Nat} {Q : ARes → AHp → Prop} (hlen : (lg_sl av).length ≤ mL y) (hwp : WP G y (d, w, k, n, h, Q) 0 (lv_args 0 av) [] h k n) : CallS G y d w av h k n Q := by
  intro p e R s m args below meth c hF hAW hLo
  have hl := lv_entry av (n := mL y) hlen
  rw [lg_entry_eq]
  exact hwp p e R s m args below meth c hF s.heap [] _ 0 0 ⟨hAW, hLo, fun a ha => Or.inl ha, va_S.rf, hl, by show 0 + k ≤ k; omega, by show 0 + n ≤ n; omega, hLo, hAW⟩
theorem AA.weak {G : Gt} {d d' w w' k k' n n' : Nat} {h : AHp} {Q Q' : ARes → AHp → Prop} (hQ : ∀ r h', Q r h' → Q' r h') {a : Array Value} {s t : State} {o : Outcome} {sz : Nat} (hc : CQ G (d, w, k, n, h, Q) sz a s o t) : CQ G (d', w', k', n', h, Q') sz a s o t := by
  obtain ⟨⟨r, h', h1, h2, h3⟩, h4⟩ := hc
  exact ⟨⟨r, h', h1, hQ r h' h2, h3⟩, h4⟩
/-- a contract serves where more is allowed and less is asked -/
theorem CallS.mono {G : Gt} {y : Mi} {d d' w w' : Nat} {av : List Value} {h : AHp} {k k' n n' : Nat} {Q Q' : ARes → AHp → Prop} (hc : CallS G y d w av h k n Q) (hd : d ≤ d') (hw : w ≤ w') (hk : k ≤ k') (hn : n ≤ n') (hQ : ∀ r h', Q r h' → Q' r h') : CallS G y d' w' av h k' n' Q' := by
  intro p e R s m args below meth c hF hAW hLo T hT X
  obtain ⟨f1, f2, f3, f4, f5, f6, f7, f8, f9, f10, f11, f12, f13, f14⟩ := hF
  have f10 : d' ≤ R.frames := f10
  have f11 : w' ≤ R.locals := f11
  have f12 : k' ≤ R.cells := f12
  have f13 : n' ≤ R.slots := f13
  obtain ⟨t, s1, o, h1, h2, h3, L, ⟨h4, h5⟩, h6⟩ := hc p e R s m args below meth c ⟨f1, f2, f3, f4, f5, f6, f7, f8, f9, Nat.le_trans hd f10, Nat.le_trans hw f11, Nat.le_trans hk f12, Nat.le_trans hn f13, f14⟩ hAW hLo T hT X
  exact ⟨t, s1, o, h1, h2, AA.weak hQ h3, L, ⟨h4, h5.mono hk hn⟩, h6⟩
