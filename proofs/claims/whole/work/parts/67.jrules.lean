/-! statics, strings and the natives of the JDK -/
section JCore
variable {G : Gt} {p : Program} {e : Env} {R : Room} {s : State} {m : MethodId} {args : Array Value} {below : List Frame} {meth : Method} {c : Code} {T : State} {locs : List Loc} {cells slots : Nat}
theorem inv_coreF {y' : Mi} {d' w' r k' n' : Nat} {av : List Value} {h : AHp} {Q' : ARes → AHp → Prop} (hC : CallS G y' d' w' av h k' n' Q') (X : Stand p (Gl G) e R s m args below meth c T locs cells slots) (hx : p.tables.exec = Jvm.exec) (hG : Gk G) (hT : Amb (Gs G) T) (hAW : AW (GD G) (GA G) h T.heap) (hLo : Lo (Gs G).heap.size h)
    {g : JFrame} (hg : g.method = m) (hsize : g.locals.size = c.maxLocals) {ig : Instr} {len : Nat} (hdg : decode c.code g.pc = .ok (ig, len)) (hW8 : 2 * g.monitorRoom + (g.stack.map fun v => v.category).sum ≤ r)
    {mk : MethodId} (hn : T.methodNamed? (mN y') = some mk) (hpn : plainFor (mN y') = true) (hmo : mOK y') (hd1 : d' + 1 ≤ R.frames) (hd2 : r + (mL y' + 11) + w' ≤ R.locals) (hd3 : cells + k' ≤ R.cells) (hd4 : slots + n' ≤ R.slots) :
    (∃ (v : Option Value) (h' : AHp) (T' : State) (L : List Loc), Q' (.inl v) h' ∧ Stand p (Gl G) e R s m args below meth c T' (locs ++ L) (cells + k') (slots + n') ∧ Aft G h T T' L h' ∧ ∀ acts, Steps p.tables e below (doInvoke e (T.setTop g) acts mk av.toArray).1 (T'.setTop { g with pc := g.pc + len, stack := v.toList ++ g.stack })) ∨
    (∃ (x : Nat) (a : Nat) (cell : Cell) (h' : AHp) (T' : State) (L : List Loc), Q' (.inr x) h' ∧ Stand p (Gl G) e R s m args below meth c T' (locs ++ L) (cells + k') (slots + n') ∧ Aft G h T T' L h' ∧ T'.heap[a]? = some cell ∧ cell.vm = .none ∧ (Gs G).vm.findClass (excN x) = some cell.cls ∧ ∀ acts, Steps p.tables e below (doInvoke e (T.setTop g) acts mk av.toArray).1 ((T'.setTop g).pushFrame (.throwing a))) := by
  obtain ⟨mk', methk, ck, hn', hmk, hck, hcb, hcl, hct, hret, hlk, hsig⟩ := hmo.at hG hT
  cases hn.symm.trans hn'
  have hpk : T.plainMethod mk := State.plainMethod.of_named hpn hn hmk
  obtain ⟨Y, hin⟩ := X.into hg hsize hdg av.toArray (R' := { frames := d', cells := k', slots := n', locals := w' }) hmk hck hlk hpk hd1 (by rw [hcl]; show _ + _ + w' ≤ _; omega) hd3 hd4
  generalize hU : (T.setTop g).pushFrame (.java (entryFrame mk av.toArray ck.maxLocals)) = U at Y hin
  have hUh : U.heap = T.heap := by rw [← hU]; rfl
  have hcv : (T.calling g mk av.toArray).vm = T.vm := rfl
  have hch : (T.calling g mk av.toArray).heap = T.heap := rfl
  have hF : Fr G y' (d', w', k', n', h, Q') p { frames := d', cells := k', slots := n', locals := w' } (T.calling g mk av.toArray) mk methk ck :=
    ⟨hx, hcb, hret, hcl, findClass_of_methodNamed (s := T) hn, hlk, (name_of_methodNamed hn hmk).1, hct, hT, Nat.le_refl _, Nat.le_refl _, Nat.le_refl _, Nat.le_refl _, hG⟩
  have hw := hC p e _ (T.calling g mk av.toArray) mk av.toArray (.java g :: below) methk ck hF hAW hLo
  rw [← hcl] at hw
  obtain ⟨t, hst, o, hrun, hend, ⟨⟨r, h', hao, hQ, hAW', hLo', hdom⟩, hFr⟩, L, ⟨hWm, hsame⟩, hL⟩ := hw U hUh Y
  have hwk : Steps p.tables e below (U.setTop (entryFrame mk av.toArray ck.maxLocals)) t := Steps.weaken (mid := [.java g]) hst
  cases r with
  | inl v =>
    have ho : o = .returned v := hao
    subst ho
    obtain ⟨T', X', hW', hB', ht⟩ := X.outOf hg hdg hend hWm hsame
    have hh : T'.heap = t.heap := by rw [ht]; simp
    refine Or.inl ⟨v, h', T', L, hQ, X', ⟨by rw [hh]; exact hAW', hLo', hdom, by rw [hh]; exact hFr.1, fun q h1 h2 => by rw [hh]; exact hFr.2 q h1 h2, hL⟩, fun acts => ?_⟩
    rw [hin acts, ← ht]
    exact hwk
  | inr x =>
    obtain ⟨a, cell, ho, hc1, hc2, hc3⟩ := hao
    subst ho
    obtain ⟨T', X', hW', hB', ht⟩ := X.outOfThrown hg hend hWm hsame
    have hh : T'.heap = t.heap := by rw [ht]; exact (Stand.throwing_heap T' g a).symm
    refine Or.inr ⟨x, a, cell, h', T', L, hQ, X', ⟨by rw [hh]; exact hAW', hLo', hdom, by rw [hh]; exact hFr.1, fun q h1 h2 => by rw [hh]; exact hFr.2 q h1 h2, hL⟩, by rw [hh]; exact hc1, hc2, hc3, fun acts => ?_⟩
    rw [hin acts, ← ht]
    exact hwk
end JCore
section JRules
variable {G : Gt} {y y' : Mi} {B : Bt} {pc idx : Nat} {lv : List (Nat × Value)} {st rest av : List Value} {h h1 : AHp} {k n : Nat}
theorem low_A {s : State} (hamb : Amb (Gs G) s) (hLo : Lo (Gs G).heap.size (Bh B)) : ∀ q, AA (Bh B) s.heap.size q → (Gs G).heap.size ≤ q := by
  intro q hq
  rcases hq with hq | hq
  · exact hLo q hq
  · exact Nat.le_trans hamb.2.1 hq
def mCalF (y : Mi) (na : Nat) : Prop := mOK y ∧ plainFor (mN y) = true ∧ ((mN y).cls ≠ "java/lang/invoke/MethodHandle" ∧ (mN y).cls ≠ "java/lang/invoke/VarHandle") ∧ (parseMethodDescriptor (mN y).desc).map (fun d => d.parameters.length) = some na
theorem link_SF {na : Nat} (hd : decode (mB y) pc = .ok (.invokestatic idx, 3)) (hc : mCalF y' na) (hw : GoodIn lw_tbl [Cond.methodLink (mN y).cls idx (mN y'), .static (mN y'), .initialized (mN y').cls]) (hna : av.length = na) : Link G y B pc (av.reverse ++ rest) rest av y' h := by
  intro p e R s m args below meth c hF T locs ls cells slots hAW X
  obtain ⟨hx, hb, -, -, hown, -, -, -, hamb, -, -, -, -, hG⟩ := id hF
  obtain ⟨hok, -, hy, hpd⟩ := hc
  obtain ⟨mk, methk, ck, hn, hmk, hck, hcb, hcl, hct, hret, hlk, hsig⟩ := hok.at hG hamb
  have hws := hG.words (a' := args) hamb hw
  have hstatic : methk.isStatic = true := Cond.static_spec hn hmk (hws _ (List.mem_cons_of_mem _ List.mem_cons_self))
  obtain ⟨kP, hkP, -⟩ := className_of_methodNamed hn
  have hinitP : kP.init = .initialized := Cond.initialized_spec (findClass_of_methodNamed hn) hkP (hws _ (List.mem_cons_of_mem _ (List.mem_cons_of_mem _ List.mem_cons_self)))
  have hlen : av.length = methk.sig.parameters.length := by
    rw [hsig] at hpd
    exact hna.trans (Option.some.inj hpd).symm
  obtain ⟨vm₁, X₁, hstep⟩ := X.invokestatic hx hown (hws _ List.mem_cons_self) hn hmk hstatic hkP hinitP hy (g := F0 m pc ls (av.reverse ++ rest)) rfl (argsL := av) (rest := rest) hlen rfl (by rw [hb]; exact hd)
  exact ⟨vm₁, mk, X₁, X₁.named hn, hstep⟩
theorem wp_callF {d' w' r k' n' na : Nat} {ig : Instr} {Q' : ARes → AHp → Prop} (hd : decode (mB y) pc = .ok (ig, 3)) (hL : Link G y B pc st rest av y' h) (hc : mCalF y' na) (hC : CallS G y' d' w' av h k' n' Q') (hr8 : (rest.map fun v => v.category).sum ≤ r) (hdep : d' + 1 ≤ Bd B ∧ r + (mL y' + 11) + w' ≤ Bw B)
    (kr : ∀ (v : Option Value) (h' : AHp), Q' (.inl v) h' → WP G y B (pc + 3) lv (v.toList ++ rest) h' k n) (kx : ∀ (x : Nat) (h' : AHp), Q' (.inr x) h' → mH y = [] ∧ BQ B (.inr x) h') : WP G y B pc lv st h (k + k') (n + n') := by
  intro p e R s m args below meth c hF H locs ls cells slots hP T hT X
  obtain ⟨hx, hb, -, hml, hown, hlocks, -, htab, hamb, hR1, hR2, hR3, hR4, hG⟩ := id hF
  have hAW : AW (GD G) (GA G) h T.heap := by rw [hT]; exact hP.1
  obtain ⟨vm₁, mk, X₁, hn, hstep⟩ := hL p e R s m args below meth c hF T locs ls cells slots hAW X
  have hAm : Amb (Gs G) (T.setVm vm₁) := hP.amb hamb X₁ hT
  have hPk := hP.2.2.2.2.2.1
  have hPn := hP.2.2.2.2.2.2.1
  have hdg : decode c.code (F0 m pc ls rest).pc = .ok (ig, 3) := by rw [hb]; exact hd
  rcases inv_coreF hC X₁ hx hG hAm hAW hP.2.1 (g := F0 m pc ls rest) rfl (hP.2.2.2.2.1.1.trans hml.symm) hdg (mRoom0 hr8) hn hc.2.1 hc.1 (Nat.le_trans hdep.1 hR1) (Nat.le_trans hdep.2 hR2) (by omega) (by omega) with ⟨v, h', T', L, hQ, X', hA, hs⟩ | ⟨x, a, cell, h', T', L, hQ, X', hA, hc1, hc2, hc3, hs⟩
  · obtain ⟨t, s1, s2⟩ := kr v h' hQ p e R s m args below meth c hF T'.heap (locs ++ L) ls (cells + k') (slots + n') (hP.aft (T := T.setVm vm₁) hT hA) T' rfl X'
    exact ⟨t, hstep t (fun acts => (hs acts).trans s1), s2⟩
  · obtain ⟨hm0, hq⟩ := kx x h' hQ
    have hout : ∀ z ∈ c.exceptionTable.toList, covers z (F0 m pc ls rest).pc = false := by
      intro z hz
      rw [hm0] at htab
      have h0 : c.exceptionTable.toList = [] := List.map_eq_nil_iff.mp htab
      rw [h0] at hz
      cases hz
    obtain ⟨w1, w2, w3, w4, w5⟩ := X'.leaveThrown a (g := F0 m pc ls rest) rfl rfl rfl hout hlocks
    have hP' := hP.aft (T := T.setVm vm₁) hT hA
    refine ⟨_, hstep _ (fun acts => (hs acts).trans w1), .threw a, w2, w3, ⟨⟨.inr x, h', ⟨a, cell, rfl, hc1, hc2, hc3⟩, hq, hP'.1, hP'.2.1, hP'.2.2.1⟩, hP'.2.2.2.1.F rfl⟩, locs ++ L, ⟨w4, w5.mono (by omega) (by omega)⟩, hP'.2.2.2.1.2.2⟩
theorem wp_callRF {d' w' r k' n' na : Nat} {ig : Instr} {v : Option Value} (hd : decode (mB y) pc = .ok (ig, 3)) (hL : Link G y B pc st rest av y' h) (hc : mCalF y' na) (hC : CallR G y' d' w' av h k' n' v h1) (hr8 : (rest.map fun v => v.category).sum ≤ r) (hdep : d' + 1 ≤ Bd B ∧ r + (mL y' + 11) + w' ≤ Bw B)
    (kr : WP G y B (pc + 3) lv (v.toList ++ rest) h1 k n) : WP G y B pc lv st h (k + k') (n + n') := by
  refine wp_callF hd hL hc hC hr8 hdep (fun v' h' hq => ?_) (fun x h' hq => ?_)
  · obtain ⟨h2, rfl⟩ := hq
    cases h2
    exact kr
  · cases hq.1
theorem wp_callVF {d' w' r na : Nat} {ig : Instr} {v : Value} (hd : decode (mB y) pc = .ok (ig, 3)) (hL : Link G y B pc st rest av y' h) (hc : mCalF y' na) (hC : CallR G y' d' w' av h 0 0 (some v) h1) (hr8 : (rest.map fun v => v.category).sum ≤ r) (hdep : d' + 1 ≤ Bd B ∧ r + (mL y' + 11) + w' ≤ Bw B)
    (kr : WP G y B (pc + 3) lv (v :: rest) h1 k n) : WP G y B pc lv st h k n := wp_callRF (k' := 0) (n' := 0) hd hL hc hC hr8 hdep kr
/-- the statics of the JDK that are read -/
def jOK (G : Gt) : Prop := va_Z "java/lang/String" "COMPACT_STRINGS" "Z" (.int 1) (fun q => (Gs G).heap.size ≤ q) (Gs G) (Gs G).heap ∧ va_Zq "jdk/internal/util/Preconditions" "SIOOBE_FORMATTER" "Ljava/util/function/BiFunction;" (fun q => (Gs G).heap.size ≤ q) (Gs G) (Gs G).heap
theorem wp_gets {C nm ds : String} {v : Value} (hd : decode (mB y) pc = .ok (.getstatic idx, 3)) (hZ : va_Z C nm ds v (fun q => (Gs G).heap.size ≤ q) (Gs G) (Gs G).heap) (hw : GoodIn lw_tbl [Cond.fieldLink (mN y).cls idx C nm ds]) (kk : WP G y B (pc + 3) lv (v :: st) h k n) : WP G y B pc lv st h k n := by
  intro p e R s m args below meth c hF H locs ls cells slots hP
  obtain ⟨hx, hb, -, -, hown, -, -, -, hamb, -, -, -, -, hG⟩ := id hF
  exact va_gets hx hb ((va_Z.kept (va_Z.moved hamb.1.alike hZ) (fun a h1 _ => hamb.2.2 a h1)).narrow (low_A hamb hP.2.2.2.2.2.2.2.1)) hP.2.2.2.1 hown (hG.words hamb hw _ List.mem_cons_self) (fun _ h9 => h9) hd (kk p e R s m args below meth c hF H locs ls cells slots hP)
theorem wp_sget {nm ds : String} {a : Nat} {v : Value} (hd : decode (mB y) pc = .ok (.getfield idx, 3)) (hE : va_OF "java/lang/String" nm ds v a (fun q => (Gs G).heap.size ≤ q) (Gs G) (Gs G).heap) (hw : GoodIn lw_tbl [Cond.fieldLink (mN y).cls idx "java/lang/String" nm ds]) (kk : WP G y B (pc + 3) lv (v :: st) h k n) : WP G y B pc lv (.ref a :: st) h k n := by
  intro p e R s m args below meth c hF H locs ls cells slots hP
  obtain ⟨hx, hb, -, -, hown, -, -, -, hamb, -, -, -, -, hG⟩ := id hF
  exact vk_getf hx hb ((va_OF.kept (va_OF.moved hamb.1.alike hE) (fun a h1 _ => hamb.2.2 a h1)).narrow (low_A hamb hP.2.2.2.2.2.2.2.1)) hP.2.2.2.1 hown (hG.words hamb hw _ List.mem_cons_self) (fun _ h9 => h9) hd (kk p e R s m args below meth c hF H locs ls cells slots hP)
theorem wp_slen {t N : Nat} {f : Nat → Value} {ty : FieldType} (hd : decode (mB y) pc = .ok (.arraylength, 1)) (hT : va_T ty t N f (fun q => (Gs G).heap.size ≤ q) (Gs G) (Gs G).heap) (kk : WP G y B (pc + 1) lv (.int (nI N) :: st) h k n) : WP G y B pc lv (.ref t :: st) h k n := by
  intro p e R s m args below meth c hF H locs ls cells slots hP
  obtain ⟨hx, hb, -, -, hown, -, -, -, hamb, -, -, -, -, hG⟩ := id hF
  exact va_tlen hx hb ((va_T.kept (va_T.moved hamb.1.alike hT) (fun a h1 _ => hamb.2.2 a h1)).narrow (low_A hamb hP.2.2.2.2.2.2.2.1)) hP.2.2.2.1 rfl hd (kk p e R s m args below meth c hF H locs ls cells slots hP)
theorem wp_sbld {t N i : Nat} {f : Nat → Value} {v : Value} (hd : decode (mB y) pc = .ok (.baload, 1)) (hT : va_T .byte t N f (fun q => (Gs G).heap.size ≤ q) (Gs G) (Gs G).heap) (hi : i < N) (hN : N < 2 ^ 31) (hv : f i = v) (kk : WP G y B (pc + 1) lv (v :: st) h k n) : WP G y B pc lv (.int (nI i) :: .ref t :: st) h k n := by
  intro p e R s m args below meth c hF H locs ls cells slots hP
  obtain ⟨hx, hb, -, -, hown, -, -, -, hamb, -, -, -, -, hG⟩ := id hF
  exact va_tb hx hb ((va_T.kept (va_T.moved hamb.1.alike hT) (fun a h1 _ => hamb.2.2 a h1)).narrow (low_A hamb hP.2.2.2.2.2.2.2.1)) hP.2.2.2.1 (vp_in_nI hi hN) (by rw [nI_clamp (by omega)]; exact hv) hd (kk p e R s m args below meth c hF H locs ls cells slots hP)
/-- a call of a String's method, its receiver being a String of the start -/
theorem wp_callSt {d' w' r k' n' na b : Nat} {as : List Value} {v : Option Value} (hd : decode (mB y) pc = .ok (.invokevirtual idx, 3)) (hc : mCal y' na) (hw : GoodIn lw_tbl [Cond.methodLink (mN y).cls idx (mN y'), .instanceMethod (mN y'), .selects "java/lang/String" (mN y') (mN y')]) (hna : as.length = na) (hO : va_O "java/lang/String" b (fun q => (Gs G).heap.size ≤ q) (Gs G) (Gs G).heap) (hC : CallR G y' d' w' (.ref b :: as) h k' n' v h1) (hr8 : (rest.map fun v => v.category).sum ≤ r) (hdep : d' + 1 ≤ Bd B ∧ r + (mL y' + 11) + w' ≤ Bw B)
    (kr : WP G y B (pc + 3) lv (v.toList ++ rest) h1 k n) : WP G y B pc lv (as.reverse ++ .ref b :: rest) h (k + k') (n + n') := by
  intro p e R s m args below meth c hF H locs ls cells slots hP T hT X
  obtain ⟨hx, hb, -, hml, hown, hlocks, -, htab, hamb, hR1, hR2, hR3, hR4, hG⟩ := id hF
  have hAW : AW (GD G) (GA G) h T.heap := by rw [hT]; exact hP.1
  obtain ⟨hok, -, hy, hpd⟩ := id hc
  have hws := hG.words (a' := args) hamb hw
  obtain ⟨mk, methM, hnamed, hmethM, hstM, habM⟩ := Cond.instanceMethod_spec (hws _ (List.mem_cons_of_mem _ List.mem_cons_self))
  obtain ⟨mk2, methk, ck, hn, hmk, hck, hcb, hcl, hct, hret, hlk, hsig⟩ := hok.at hG hamb
  cases hnamed.symm.trans hn
  cases hmethM.symm.trans hmk
  obtain ⟨c2, r2, m2, q1, q2, q3, q4, kP, hkP, hkPi⟩ := Cond.selects_spec (hws _ (List.mem_cons_of_mem _ (List.mem_cons_of_mem _ List.mem_cons_self)))
  obtain ⟨cellB, hcB, hoB, hclB, -⟩ := va_O.kept ((va_O.kept (va_O.moved hamb.1.alike hO) (fun a h1 _ => hamb.2.2 a h1)).narrow (low_A hamb hP.2.2.2.2.2.2.2.1)) hP.2.2.2.1.2.1
  rw [← hT] at hcB
  cases hclB.symm.trans q1
  cases (State.methodFound?_of_named hnamed hy).symm.trans q2
  cases hnamed.symm.trans q3
  have hselP : selectMethod e.platform s.vm cellB.cls mk = .method mk := by rw [Launch.admits_selectMethod X.admits]; exact q4
  have hlen : as.length = methM.sig.parameters.length := by
    rw [hsig] at hpd
    exact hna.trans (Option.some.inj hpd).symm
  obtain ⟨vm₁, X₁, hstep⟩ := X.invokevirtual hx hown (hws _ List.mem_cons_self) hnamed hmethM hstM hkP hkPi hy (a := b) (cell := cellB) hcB (fun z h => by rw [h] at hoB; cases hoB) hselP hmethM habM hkP hkPi (g := F0 m pc ls (as.reverse ++ .ref b :: rest)) rfl (argsL := as) (rest := rest) hlen rfl (by rw [hb]; exact hd)
  have hn := X₁.named hnamed
  have hAm : Amb (Gs G) (T.setVm vm₁) := hP.amb hamb X₁ hT
  have hPk := hP.2.2.2.2.2.1
  have hPn := hP.2.2.2.2.2.2.1
  have hdg : decode c.code (F0 m pc ls rest).pc = .ok (.invokevirtual idx, 3) := by rw [hb]; exact hd
  rcases inv_core hC X₁ hx hG hAm hAW hP.2.1 (g := F0 m pc ls rest) rfl (hP.2.2.2.2.1.1.trans hml.symm) hdg (mRoom0 hr8) hn hc.2.1 hc.1 (Nat.le_trans hdep.1 hR1) (Nat.le_trans hdep.2 hR2) (by omega) (by omega) with ⟨v', h', T', L, hQ, X', hA, hs⟩ | ⟨x, a, cell, h', T', L, hQ, X', hA, hc1, hc2, hc3, hs⟩
  · obtain ⟨h2, rfl⟩ := hQ
    cases h2
    obtain ⟨t, s1, s2⟩ := kr p e R s m args below meth c hF T'.heap (locs ++ L) ls (cells + k') (slots + n') (hP.aft (T := T.setVm vm₁) hT hA) T' rfl X'
    exact ⟨t, hstep t (fun acts => (hs acts).trans s1), s2⟩
  · cases hQ.1
/-- link of a constructor of the nest -/
theorem link_IN {na b : Nat} {as : List Value} {host : String} (hd : decode (mB y) pc = .ok (.invokespecial idx, 3)) (hc : mCal y' na) (hini : (mN y').name = "<init>") (hl : Cond.methodLinkNest (mN y).cls idx (mN y') host ∈ lw_tbl) (hw : GoodIn lw_tbl [Cond.instanceMethod (mN y'), .code (mN y') (mB y') (mL y') none]) (hna : as.length = na) : Link G y B pc (as.reverse ++ .ref b :: rest) rest (.ref b :: as) y' h := by
  intro p e R s m args below meth c hF T locs ls cells slots hAW X
  obtain ⟨hx, hb, -, -, hown, -, -, -, hamb, -, -, -, -, hG⟩ := id hF
  obtain ⟨hok, -, hy, hpd⟩ := hc
  have hws := hG.words (a' := args) hamb hw
  have hln : (Cond.methodLinkNest (mN y).cls idx (mN y') host).before args s = true := va_Nw.use rfl (va_Nw.warmM hamb.1 (va_Nw.of rfl (hG.1 _ hl)))
  have hpl : e.platform.magicAccessors = ({} : Platform).magicAccessors := by rw [X.admits.platform]
  obtain ⟨mk, methM, cM, kP, vm₁, hnamed, hmethM, hcodeM, -, hlocalsM, -, hkP, -, hW₁, hstep⟩ := Steps.initColdArgsNest (e := e) X.here hx X.warmed hpl hown hini hy hln (hws _ List.mem_cons_self) (hws _ (List.mem_cons_of_mem _ List.mem_cons_self)) (f := F0 m pc ls (as.reverse ++ .ref b :: rest)) rfl (a := b) (argsL := as) (rest := rest) (fun sig h9 => by rw [h9] at hpd; exact hna.trans (Option.some.inj hpd).symm) rfl (by rw [hb]; exact hd)
  have X₁ := X.noted hW₁
  exact ⟨vm₁, mk, X₁, X₁.named hnamed, hstep⟩
/-- an array's clone, in a world of that array alone -/
theorem wp_clone1 {ad : String} {a t : Nat} {x : vp_A} {ty : FieldType} (hd : decode (mB y) pc = .ok (.invokevirtual idx, 3)) (hdom : ∀ q, h q ≠ none → q = a) (ha : h a = some (.inl (t, x))) (ht : aTy[t]? = some ty)
    (hw : GoodIn lw_tbl [Cond.methodLink (mN y).cls idx ⟨ad, "clone", "()Ljava/lang/Object;"⟩, .sameMethod ad "java/lang/Object" "clone" "()Ljava/lang/Object;", .native ⟨"java/lang/Object", "clone", "()Ljava/lang/Object;"⟩, .instanceMethod ⟨"java/lang/Object", "clone", "()Ljava/lang/Object;"⟩, .selects ad ⟨ad, "clone", "()Ljava/lang/Object;"⟩ ⟨"java/lang/Object", "clone", "()Ljava/lang/Object;"⟩])
    (hcst : Cond.castable ad "java/lang/Cloneable" ∈ lw_tbl) (hnm : ∀ (U : State) (cA : ClassId), va_RA U cA ty → U.vm.findClass ad = some cA) (hfit : ∀ (cA : ClassId) (i : Nat) (v : Value), (vp_cell cA x).slots[i]? = some v → fits ty v = true) (hdep : 1 ≤ Bd B ∧ (st.map fun v => v.category).sum + 14 ≤ Bw B)
    (kk : ∀ q, h q = none → WP G y B (pc + 3) lv (.ref q :: st) (hup h q (.inl (t, x))) k n) : WP G y B pc lv (.ref a :: st) h (k + 1) (n + x.1) := by
  intro p e R s m args below meth c hF H locs ls cells slots hP
  obtain ⟨hx, hb, -, hml, hown, -, -, -, hamb, hR1, hR2, hRk, hRn, hG⟩ := id hF
  have hws := hG.words (a' := args) hamb hw
  have hK := hG.K hamb
  have hcl : va_Nw (.castable ad "java/lang/Cloneable") s := va_Nw.warmC hamb.1 (va_Nw.of rfl (hG.1 _ hcst))
  have hPk := hP.2.2.2.2.2.1
  have hPn := hP.2.2.2.2.2.2.1
  have hD : va_D (AA (Bh B) s.heap.size) [(a, .inl (GA G t, x))] := by
    refine ⟨fun i j p q hi hj _ => ?_, fun i q hi => ?_⟩
    · have h1 := (List.getElem?_eq_some_iff.mp hi).1
      have h2 := (List.getElem?_eq_some_iff.mp hj).1
      simp at h1 h2
      omega
    · have h1 := (List.getElem?_eq_some_iff.mp hi).1
      simp at h1
      subst h1
      cases hi
      exact hP.2.2.1 a (by rw [ha]; simp)
  refine va_clone (D := GD G) (cl := vwCl) (tys := aTys (GA G)) (ws := [(a, .inl (GA G t, x))]) (A := AA (Bh B) s.heap.size) hx hb (hml.trans hP.2.2.2.2.1.1.symm) hown (hws _ List.mem_cons_self) (hws _ (List.mem_cons_of_mem _ List.mem_cons_self)) (hws _ (List.mem_cons_of_mem _ (List.mem_cons_of_mem _ List.mem_cons_self))) (hws _ (List.mem_cons_of_mem _ (List.mem_cons_of_mem _ (List.mem_cons_of_mem _ List.mem_cons_self)))) (hws _ (List.mem_cons_of_mem _ (List.mem_cons_of_mem _ (List.mem_cons_of_mem _ (List.mem_cons_of_mem _ List.mem_cons_self))))) hcl hK (hP.1.one ha) hD hP.2.2.2.1 (fun q hq => Or.inr hq) 0 t rfl (aTys_at ht) (hnm s _ (hK.2 t _ (aTys_at ht)).2) (hfit _) (Nat.le_trans hdep.1 hR1) (Nat.le_trans hdep.2 hR2) (by omega) (by omega) hd fun q H1 hK1 hP1 hD1 hS1 => ?_
  have hqa : q ≠ a := fun e => by
    have := hD1.1 1 0 (q, .inl (GA G t, x)) (a, .inl (GA G t, x)) rfl rfl e
    omega
  have hq0 : h q = none := by
    cases hh : h q with
    | none => rfl
    | some o => exact absurd (hdom q (by rw [hh]; simp)) hqa
  have hAq : AA (Bh B) s.heap.size q := hD1.2 1 (q, .inl (GA G t, x)) rfl
  refine kk q hq0 p e R s m args below meth c hF H1 locs ls (cells + 1) (slots + x.1) ⟨?_, ?_, ?_, hS1, hP.2.2.2.2.1, by omega, by omega, hP.2.2.2.2.2.2.2⟩
  · intro b o hb2
    by_cases hbq : b = q
    · subst hbq
      rw [hup_eq] at hb2
      cases hb2
      exact hP1 1 (b, .inl (GA G t, x)) rfl
    · rw [hup_ne hbq] at hb2
      have hba := hdom b (by rw [hb2]; simp)
      subst hba
      rw [ha] at hb2
      cases hb2
      exact hP1 0 (b, .inl (GA G t, x)) rfl
  · intro b hb2
    by_cases hbq : b = q
    · subst hbq
      exact low_A hamb hP.2.2.2.2.2.2.2.1 b hAq
    · rw [hup_ne hbq] at hb2
      exact hP.2.1 b hb2
  · intro b hb2
    by_cases hbq : b = q
    · subst hbq
      exact hAq
    · rw [hup_ne hbq] at hb2
      exact hP.2.2.1 b hb2
theorem va_D2 {A : Nat → Prop} {a b : Nat} {x z : va_E} (hne : a ≠ b) (ha : A a) (hb : A b) : va_D A [(a, x), (b, z)] := by
  refine ⟨fun i j p q hi hj he => ?_, fun i q hi => ?_⟩
  · have h1 := (List.getElem?_eq_some_iff.mp hi).1
    have h2 := (List.getElem?_eq_some_iff.mp hj).1
    simp at h1 h2
    rcases (show i = 0 ∨ i = 1 by omega) with rfl | rfl <;> rcases (show j = 0 ∨ j = 1 by omega) with rfl | rfl
    · rfl
    · cases hi; cases hj; exact absurd he hne
    · cases hi; cases hj; exact absurd he.symm hne
    · rfl
  · have h1 := (List.getElem?_eq_some_iff.mp hi).1
    simp at h1
    rcases (show i = 0 ∨ i = 1 by omega) with rfl | rfl
    · cases hi; exact ha
    · cases hi; exact hb
theorem Pt2.cpy {s : State} {H H1 : Heap} {locs locs1 : List Loc} {ls : Array Slot} {cells slots a0 a : Nat} {o0 o o1 : AObj} (hP : Pt2 G y B s H locs ls lv h k n cells slots) (hdom : ∀ q, h q ≠ none → q = a0 ∨ q = a) (hne : a0 ≠ a) (ha0 : h a0 = some o0) (ha : h a = some o1) (h0 : va_at (GD G) vwCl (a0, aE (GA G) o0) H1) (h1 : va_at (GD G) vwCl (a, aE (GA G) o) H1) (hS : va_S (AA (Bh B) s.heap.size) s.heap H1 locs1) : Pt2 G y B s H1 locs1 ls lv (hup h a o) k n cells slots := by
  refine ⟨?_, ?_, ?_, hS, hP.2.2.2.2⟩
  · intro b o2 hb2
    by_cases hbq : b = a
    · subst hbq
      rw [hup_eq] at hb2
      cases hb2
      exact h1
    · rw [hup_ne hbq] at hb2
      rcases hdom b (by rw [hb2]; simp) with rfl | hba
      · rw [ha0] at hb2
        cases hb2
        exact h0
      · exact absurd hba hbq
  · intro b hb2
    by_cases hbq : b = a
    · subst hbq
      exact hP.2.1 b (by rw [ha]; simp)
    · rw [hup_ne hbq] at hb2
      exact hP.2.1 b hb2
  · intro b hb2
    by_cases hbq : b = a
    · subst hbq
      exact hP.2.2.1 b (by rw [ha]; simp)
    · rw [hup_ne hbq] at hb2
      exact hP.2.2.1 b hb2
def cpW : List Cond := [.native arraycopyName, .static arraycopyName, .initialized "java/lang/System"]
theorem wp_copyi {a0 a t n0 n1 nn : Nat} {f g : Nat → Int32} {ty : FieldType} (hd : decode (mB y) pc = .ok (.invokestatic idx, 3)) (hdom : ∀ q, h q ≠ none → q = a0 ∨ q = a) (hne : a0 ≠ a) (ha0 : h a0 = some (.inl (t, n0, .inl f))) (ha : h a = some (.inl (t, n1, .inl g))) (ht : aTy[t]? = some ty) (hprim : refKind ty = false)
    (hw : GoodIn lw_tbl [Cond.methodLink (mN y).cls idx arraycopyName, .native arraycopyName, .static arraycopyName, .initialized "java/lang/System"]) (h4 : nn ≤ n0) (h5 : nn ≤ n1) (hn31 : nn < 2 ^ 31) (hfit : ∀ i, i < nn → fits ty (.int (f i)) = true) (hdep : 1 ≤ Bd B ∧ (st.map fun v => v.category).sum + (nativeFrameWords "java/lang/System" "arraycopy" 5 + 11) ≤ Bw B)
    (kk : WP G y B (pc + 3) lv st (hup h a (.inl (t, n1, .inl (va_cpy f g 0 0 nn)))) k n) : WP G y B pc lv (.int (nI nn) :: .int (nI 0) :: .ref a :: .int (nI 0) :: .ref a0 :: st) h k n := by
  intro p e R s m args below meth c hF H locs ls cells slots hP
  obtain ⟨hx, hb, -, hml, hown, -, -, -, hamb, hR1, hR2, hRk, hRn, hG⟩ := id hF
  have hws := hG.words (a' := args) hamb hw
  have hK := hG.K hamb
  have e0 : (nI 0).toNatClampNeg = 0 := nI_clamp (by omega)
  have en : (nI nn).toNatClampNeg = nn := nI_clamp hn31
  refine va_copyi (D := GD G) (cl := vwCl) (tys := aTys (GA G)) (ws := [(a0, .inl (GA G t, n0, .inl f)), (a, .inl (GA G t, n1, .inl g))]) (A := AA (Bh B) s.heap.size) hx hb (hml.trans hP.2.2.2.2.1.1.symm) hown (hws _ List.mem_cons_self) (hws _ (List.mem_cons_of_mem _ List.mem_cons_self)) (hws _ (List.mem_cons_of_mem _ (List.mem_cons_of_mem _ List.mem_cons_self))) (hws _ (List.mem_cons_of_mem _ (List.mem_cons_of_mem _ (List.mem_cons_of_mem _ List.mem_cons_self)))) hK ?_ (va_D2 hne (hP.2.2.1 a0 (by rw [ha0]; simp)) (hP.2.2.1 a (by rw [ha]; simp))) hP.2.2.2.1 0 1 t t rfl rfl (aTys_at ht) (aTys_at ht) hprim (nI_pos (by omega)) (nI_pos (by omega)) (nI_pos hn31) (by rw [e0, en]; omega) (by rw [e0, en]; omega) (by rw [e0, en]; intro i hi; rw [Nat.zero_add]; exact hfit i hi) (Nat.le_trans hdep.1 hR1) (Nat.le_trans hdep.2 hR2) hd fun H1 locs1 hP1 hD1 hS1 => ?_
  · intro i q hi
    have h1 := (List.getElem?_eq_some_iff.mp hi).1
    simp at h1
    rcases (show i = 0 ∨ i = 1 by omega) with rfl | rfl
    · cases hi; exact hP.1 a0 _ ha0
    · cases hi; exact hP.1 a _ ha
  · rw [e0, en] at hP1
    exact kk p e R s m args below meth c hF H1 locs1 ls cells slots (hP.cpy hdom hne ha0 ha (hP1 0 _ rfl) (hP1 1 _ rfl) hS1)
theorem wp_copyl {a0 a t n0 n1 nn : Nat} {f g : Nat → Int64} {ty : FieldType} (hd : decode (mB y) pc = .ok (.invokestatic idx, 3)) (hdom : ∀ q, h q ≠ none → q = a0 ∨ q = a) (hne : a0 ≠ a) (ha0 : h a0 = some (.inl (t, n0, .inr (.inl f)))) (ha : h a = some (.inl (t, n1, .inr (.inl g)))) (ht : aTy[t]? = some ty) (hprim : refKind ty = false)
    (hw : GoodIn lw_tbl [Cond.methodLink (mN y).cls idx arraycopyName, .native arraycopyName, .static arraycopyName, .initialized "java/lang/System"]) (h4 : nn ≤ n0) (h5 : nn ≤ n1) (hn31 : nn < 2 ^ 31) (hfit : ∀ i, i < nn → fits ty (.long (f i)) = true) (hdep : 1 ≤ Bd B ∧ (st.map fun v => v.category).sum + (nativeFrameWords "java/lang/System" "arraycopy" 5 + 11) ≤ Bw B)
    (kk : WP G y B (pc + 3) lv st (hup h a (.inl (t, n1, .inr (.inl (va_cpy f g 0 0 nn))))) k n) : WP G y B pc lv (.int (nI nn) :: .int (nI 0) :: .ref a :: .int (nI 0) :: .ref a0 :: st) h k n := by
  intro p e R s m args below meth c hF H locs ls cells slots hP
  obtain ⟨hx, hb, -, hml, hown, -, -, -, hamb, hR1, hR2, hRk, hRn, hG⟩ := id hF
  have hws := hG.words (a' := args) hamb hw
  have hK := hG.K hamb
  have e0 : (nI 0).toNatClampNeg = 0 := nI_clamp (by omega)
  have en : (nI nn).toNatClampNeg = nn := nI_clamp hn31
  refine va_copyl (D := GD G) (cl := vwCl) (tys := aTys (GA G)) (ws := [(a0, .inl (GA G t, n0, .inr (.inl f))), (a, .inl (GA G t, n1, .inr (.inl g)))]) (A := AA (Bh B) s.heap.size) hx hb (hml.trans hP.2.2.2.2.1.1.symm) hown (hws _ List.mem_cons_self) (hws _ (List.mem_cons_of_mem _ List.mem_cons_self)) (hws _ (List.mem_cons_of_mem _ (List.mem_cons_of_mem _ List.mem_cons_self))) (hws _ (List.mem_cons_of_mem _ (List.mem_cons_of_mem _ (List.mem_cons_of_mem _ List.mem_cons_self)))) hK ?_ (va_D2 hne (hP.2.2.1 a0 (by rw [ha0]; simp)) (hP.2.2.1 a (by rw [ha]; simp))) hP.2.2.2.1 0 1 t t rfl rfl (aTys_at ht) (aTys_at ht) hprim (nI_pos (by omega)) (nI_pos (by omega)) (nI_pos hn31) (by rw [e0, en]; omega) (by rw [e0, en]; omega) (by rw [e0, en]; intro i hi; rw [Nat.zero_add]; exact hfit i hi) (Nat.le_trans hdep.1 hR1) (Nat.le_trans hdep.2 hR2) hd fun H1 locs1 hP1 hD1 hS1 => ?_
  · intro i q hi
    have h1 := (List.getElem?_eq_some_iff.mp hi).1
    simp at h1
    rcases (show i = 0 ∨ i = 1 by omega) with rfl | rfl
    · cases hi; exact hP.1 a0 _ ha0
    · cases hi; exact hP.1 a _ ha
  · rw [e0, en] at hP1
    exact kk p e R s m args below meth c hF H1 locs1 ls cells slots (hP.cpy hdom hne ha0 ha (hP1 0 _ rfl) (hP1 1 _ rfl) hS1)
theorem wp_castA {nm : String} {a t : Nat} {x : vp_A} {ty : FieldType} (hd : decode (mB y) pc = .ok (.checkcast idx, 3)) (ha : h a = some (.inl (t, x))) (ht : aTy[t]? = some ty) (hw : GoodIn lw_tbl [Cond.classLink (mN y).cls idx nm]) (hnm : ∀ (U : State) (cA : ClassId), va_RA U cA ty → U.vm.findClass nm = some cA) (kk : WP G y B (pc + 3) lv (.ref a :: st) h k n) : WP G y B pc lv (.ref a :: st) h k n := by
  intro p e R s m args below meth c hF H locs ls cells slots hP
  obtain ⟨hx, hb, -, hml, hown, -, -, -, hamb, hR1, hR2, hRk, hRn, hG⟩ := id hF
  have hws := hG.words (a' := args) hamb hw
  have hK := hG.K hamb
  exact va_castA (D := GD G) (cl := vwCl) (ws := [(a, .inl (GA G t, x))]) hx hb hown (hws _ List.mem_cons_self) (hP.1.one ha) 0 rfl (hnm s _ (hK.2 t _ (aTys_at ht)).2) hd (kk p e R s m args below meth c hF H locs ls cells slots hP)
end JRules
