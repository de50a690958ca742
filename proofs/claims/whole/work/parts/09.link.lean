section LinkRules
/-- the call at pc comes to the method y' with the arguments av, the rest of the stack kept -/
def Link (G : Gt) (y : Mi) (B : Bt) (pc : Nat) (st rest av : List Value) (y' : Mi) (h : AHp) : Prop :=
  ∀ (p : Program) (e : Env) (R : Room) (s : State) (m : MethodId) (args : Array Value) (below : List Frame) (meth : Method) (c : Code), Fr G y B p R s m meth c → ∀ (T : State) (locs : List Loc) (ls : Array Slot) (cells slots : Nat),
    AW (GD G) (GA G) h T.heap → Stand p (Gl G) e R s m args below meth c T locs cells slots →
    ∃ (vm₁ : Vm) (mk : MethodId), Stand p (Gl G) e R s m args below meth c (T.setVm vm₁) locs cells slots ∧ (T.setVm vm₁).methodNamed? (mN y') = some mk ∧
      ∀ target, (∀ acts, Steps p.tables e below (doInvoke e ((T.setVm vm₁).setTop (F0 m pc ls rest)) acts mk av.toArray).1 target) → Steps p.tables e below (T.setTop (F0 m pc ls st)) target
variable {G : Gt} {y y' : Mi} {B : Bt} {pc idx : Nat} {rest av : List Value} {h : AHp}
/-- what the tables must say of a callee -/
def mCal (y : Mi) (na : Nat) : Prop := mOK y ∧ plainName (mN y).cls = true ∧ ((mN y).cls ≠ "java/lang/invoke/MethodHandle" ∧ (mN y).cls ≠ "java/lang/invoke/VarHandle") ∧ (parseMethodDescriptor (mN y).desc).map (fun d => d.parameters.length) = some na
theorem link_S {na : Nat} (hd : decode (mB y) pc = .ok (.invokestatic idx, 3)) (hc : mCal y' na) (hw : GoodIn lw_tbl [Cond.methodLink (mN y).cls idx (mN y'), .static (mN y'), .initialized (mN y').cls]) (hna : av.length = na) : Link G y B pc (av.reverse ++ rest) rest av y' h := by
  intro p e R s m args below meth c hF T locs ls cells slots hAW X
  obtain ⟨hx, hb, -, -, hown, -, -, -, hamb, -, -, -, -, hG⟩ := id hF
  obtain ⟨hok, -, hy, hpd⟩ := hc
  obtain ⟨mk, methk, ck, hn, hmk, hck, hcb, hcl, hct, hret, hlk, hsig⟩ := hok.at hG hamb
  have hws := hG.words (a' := args) hamb hw
  have hstatic : methk.isStatic = true := Cond.static_spec hn hmk (hws _ (List.mem_cons_of_mem _ List.mem_cons_self))
  obtain ⟨kP, hkP, -⟩ := className_of_methodNamed hn
  have hinitP : kP.init = .initialized := Cond.initialized_spec (findClass_of_methodNamed hn) hkP (hws _ (List.mem_cons_of_mem _ (List.mem_cons_of_mem _ List.mem_cons_self)))
  have hlen : av.length = methk.sig.parameters.length := by
    rw [hsig] at hpd
    exact hna.trans (Option.some.inj hpd).symm
  obtain ⟨vm₁, X₁, hstep⟩ := X.invokestatic hx hown (hws _ List.mem_cons_self) hn hmk hstatic hkP hinitP hy (g := F0 m pc ls (av.reverse ++ rest)) rfl (argsL := av) (rest := rest) hlen rfl (by rw [hb]; exact hd)
  exact ⟨vm₁, mk, X₁, X₁.named hn, hstep⟩
theorem link_SN {na : Nat} {host : String} (hd : decode (mB y) pc = .ok (.invokestatic idx, 3)) (hc : mCal y' na) (hl : Cond.methodLinkNest (mN y).cls idx (mN y') host ∈ lw_tbl) (hw : GoodIn lw_tbl [Cond.static (mN y'), .initialized (mN y').cls]) (hna : av.length = na) : Link G y B pc (av.reverse ++ rest) rest av y' h := by
  intro p e R s m args below meth c hF T locs ls cells slots hAW X
  obtain ⟨hx, hb, -, -, hown, -, -, -, hamb, -, -, -, -, hG⟩ := id hF
  obtain ⟨hok, -, hy, hpd⟩ := hc
  obtain ⟨mk, methk, ck, hn, hmk, hck, hcb, hcl, hct, hret, hlk, hsig⟩ := hok.at hG hamb
  have hws := hG.words (a' := args) hamb hw
  have hstatic : methk.isStatic = true := Cond.static_spec hn hmk (hws _ List.mem_cons_self)
  obtain ⟨kP, hkP, -⟩ := className_of_methodNamed hn
  have hinitP : kP.init = .initialized := Cond.initialized_spec (findClass_of_methodNamed hn) hkP (hws _ (List.mem_cons_of_mem _ List.mem_cons_self))
  have hlen : av.length = methk.sig.parameters.length := by
    rw [hsig] at hpd
    exact hna.trans (Option.some.inj hpd).symm
  have hln : (Cond.methodLinkNest (mN y).cls idx (mN y') host).before args s = true := va_Nw.use rfl (va_Nw.warmM hamb.1 (va_Nw.of rfl (hG.1 _ hl)))
  obtain ⟨vm₁, X₁, hstep⟩ := X.invokestaticNest hx hown hln hn hmk hstatic hkP hinitP hy (g := F0 m pc ls (av.reverse ++ rest)) rfl (argsL := av) (rest := rest) hlen rfl (by rw [hb]; exact hd)
  exact ⟨vm₁, mk, X₁, X₁.named hn, hstep⟩
theorem link_V {na ci b : Nat} {fs : List Value} {r : vw_C} {as : List Value} (hd : decode (mB y) pc = .ok (.invokevirtual idx, 3)) (hc : mCal y' na) (hw : GoodIn lw_tbl [Cond.methodLink (mN y).cls idx (mN y'), .instanceMethod (mN y'), .selects r.1 (mN y') (mN y')]) (hna : as.length = na) (hb0 : h b = some (.inr (ci, fs))) (hci : vwCl[ci]? = some r) : Link G y B pc (as.reverse ++ .ref b :: rest) rest (.ref b :: as) y' h := by
  intro p e R s m args below meth c hF T locs ls cells slots hAW X
  obtain ⟨hx, hb, -, -, hown, -, -, -, hamb, -, -, -, -, hG⟩ := id hF
  obtain ⟨hok, -, hy, hpd⟩ := hc
  have hws := hG.words (a' := args) hamb hw
  obtain ⟨mk, methM, hnamed, hmethM, hstM, habM⟩ := Cond.instanceMethod_spec (hws _ (List.mem_cons_of_mem _ List.mem_cons_self))
  obtain ⟨mk2, methk, ck, hn, hmk, hck, hcb, hcl, hct, hret, hlk, hsig⟩ := hok.at hG hamb
  cases hnamed.symm.trans hn
  cases hmethM.symm.trans hmk
  obtain ⟨c2, r2, m2, q1, q2, q3, q4, kP, hkP, hkPi⟩ := Cond.selects_spec (hws _ (List.mem_cons_of_mem _ (List.mem_cons_of_mem _ List.mem_cons_self)))
  obtain ⟨cellB, hcB, hoB, hclB⟩ := va_recv (hG.K hamb) (hAW.one hb0) (ci := ci) (q0 := 0) hci rfl
  cases hclB.symm.trans q1
  cases (State.methodFound?_of_named hnamed hy).symm.trans q2
  cases hnamed.symm.trans q3
  have hselP : selectMethod e.platform s.vm cellB.cls mk = .method mk := by rw [Launch.admits_selectMethod X.admits]; exact q4
  have hlen : as.length = methM.sig.parameters.length := by
    rw [hsig] at hpd
    exact hna.trans (Option.some.inj hpd).symm
  obtain ⟨vm₁, X₁, hstep⟩ := X.invokevirtual hx hown (hws _ List.mem_cons_self) hnamed hmethM hstM hkP hkPi hy (a := b) (cell := cellB) hcB (fun z h => by rw [h] at hoB; cases hoB) hselP hmethM habM hkP hkPi (g := F0 m pc ls (as.reverse ++ .ref b :: rest)) rfl (argsL := as) (rest := rest) hlen rfl (by rw [hb]; exact hd)
  exact ⟨vm₁, mk, X₁, X₁.named hnamed, hstep⟩
theorem link_VN {na ci b : Nat} {fs : List Value} {r : vw_C} {as : List Value} {host : String} (hd : decode (mB y) pc = .ok (.invokevirtual idx, 3)) (hc : mCal y' na) (hl : Cond.methodLinkNest (mN y).cls idx (mN y') host ∈ lw_tbl) (hw : GoodIn lw_tbl [Cond.instanceMethod (mN y'), .selects r.1 (mN y') (mN y')]) (hna : as.length = na) (hb0 : h b = some (.inr (ci, fs))) (hci : vwCl[ci]? = some r) : Link G y B pc (as.reverse ++ .ref b :: rest) rest (.ref b :: as) y' h := by
  intro p e R s m args below meth c hF T locs ls cells slots hAW X
  obtain ⟨hx, hb, -, -, hown, -, -, -, hamb, -, -, -, -, hG⟩ := id hF
  obtain ⟨hok, -, hy, hpd⟩ := hc
  have hws := hG.words (a' := args) hamb hw
  obtain ⟨mk, methM, hnamed, hmethM, hstM, habM⟩ := Cond.instanceMethod_spec (hws _ List.mem_cons_self)
  obtain ⟨mk2, methk, ck, hn, hmk, hck, hcb, hcl, hct, hret, hlk, hsig⟩ := hok.at hG hamb
  cases hnamed.symm.trans hn
  cases hmethM.symm.trans hmk
  obtain ⟨c2, r2, m2, q1, q2, q3, q4, kP, hkP, hkPi⟩ := Cond.selects_spec (hws _ (List.mem_cons_of_mem _ List.mem_cons_self))
  obtain ⟨cellB, hcB, hoB, hclB⟩ := va_recv (hG.K hamb) (hAW.one hb0) (ci := ci) (q0 := 0) hci rfl
  cases hclB.symm.trans q1
  cases (State.methodFound?_of_named hnamed hy).symm.trans q2
  cases hnamed.symm.trans q3
  have hselP : selectMethod e.platform s.vm cellB.cls mk = .method mk := by rw [Launch.admits_selectMethod X.admits]; exact q4
  have hlen : as.length = methM.sig.parameters.length := by
    rw [hsig] at hpd
    exact hna.trans (Option.some.inj hpd).symm
  have hln : (Cond.methodLinkNest (mN y).cls idx (mN y') host).before args s = true := va_Nw.use rfl (va_Nw.warmM hamb.1 (va_Nw.of rfl (hG.1 _ hl)))
  obtain ⟨vm₁, X₁, hstep⟩ := X.invokevirtualNest hx hown hln hnamed hmethM hstM hkP hkPi hy (a := b) (cell := cellB) hcB (fun z h => by rw [h] at hoB; cases hoB) hselP hmethM habM hkP hkPi (g := F0 m pc ls (as.reverse ++ .ref b :: rest)) rfl (argsL := as) (rest := rest) hlen rfl (by rw [hb]; exact hd)
  exact ⟨vm₁, mk, X₁, X₁.named hnamed, hstep⟩
theorem link_I {na b : Nat} {as : List Value} (hd : decode (mB y) pc = .ok (.invokespecial idx, 3)) (hc : mCal y' na) (hini : (mN y').name = "<init>") (hw : GoodIn lw_tbl [Cond.methodLink (mN y).cls idx (mN y'), .instanceMethod (mN y'), .code (mN y') (mB y') (mL y') none]) (hna : as.length = na) : Link G y B pc (as.reverse ++ .ref b :: rest) rest (.ref b :: as) y' h := by
  intro p e R s m args below meth c hF T locs ls cells slots hAW X
  obtain ⟨hx, hb, -, -, hown, -, -, -, hamb, -, -, -, -, hG⟩ := id hF
  obtain ⟨hok, -, hy, hpd⟩ := hc
  have hws := hG.words (a' := args) hamb hw
  have hpl : e.platform.magicAccessors = ({} : Platform).magicAccessors := by rw [X.admits.platform]
  obtain ⟨mk, methM, cM, kP, vm₁, hnamed, hmethM, hcodeM, -, hlocalsM, -, hkP, -, hW₁, hstep⟩ := Steps.initColdArgs (e := e) X.here hx X.warmed hpl hown hini hy (hws _ List.mem_cons_self) (hws _ (List.mem_cons_of_mem _ List.mem_cons_self)) (hws _ (List.mem_cons_of_mem _ (List.mem_cons_of_mem _ List.mem_cons_self))) (f := F0 m pc ls (as.reverse ++ .ref b :: rest)) rfl (a := b) (argsL := as) (rest := rest) (fun sig h9 => by rw [h9] at hpd; exact hna.trans (Option.some.inj hpd).symm) rfl (by rw [hb]; exact hd)
  have X₁ := X.noted hW₁
  exact ⟨vm₁, mk, X₁, X₁.named hnamed, hstep⟩
variable {lv : List (Nat × Value)} {st : List Value} {k n : Nat}
theorem mRoom0 {m : MethodId} {pc : Nat} {ls : Array Slot} {rest st : List Value} {r : Nat} (h : (st.map fun v => v.category).sum ≤ r) : 2 * (F0 m pc ls rest).monitorRoom + (st.map fun v => v.category).sum ≤ r := by
  have h0 : (F0 m pc ls rest).monitorRoom = 0 := rfl
  rw [h0]
  omega
/-- a call, the exceptions going on to the caller's caller -/
theorem wp_call {d' w' r k' n' na : Nat} {ig : Instr} {Q' : ARes → AHp → Prop} (hd : decode (mB y) pc = .ok (ig, 3)) (hL : Link G y B pc st rest av y' h) (hc : mCal y' na) (hC : CallS G y' d' w' av h k' n' Q') (hr8 : (rest.map fun v => v.category).sum ≤ r) (hdep : d' + 1 ≤ Bd B ∧ r + (mL y' + 11) + w' ≤ Bw B)
    (kr : ∀ (v : Option Value) (h' : AHp), Q' (.inl v) h' → WP G y B (pc + 3) lv (v.toList ++ rest) h' k n) (kx : ∀ (x : Nat) (h' : AHp), Q' (.inr x) h' → mH y = [] ∧ BQ B (.inr x) h') : WP G y B pc lv st h (k + k') (n + n') := by
  intro p e R s m args below meth c hF H locs ls cells slots hP T hT X
  obtain ⟨hx, hb, -, hml, hown, hlocks, -, htab, hamb, hR1, hR2, hR3, hR4, hG⟩ := id hF
  have hAW : AW (GD G) (GA G) h T.heap := by rw [hT]; exact hP.1
  obtain ⟨vm₁, mk, X₁, hn, hstep⟩ := hL p e R s m args below meth c hF T locs ls cells slots hAW X
  have hAm : Amb (Gs G) (T.setVm vm₁) := hP.amb hamb X₁ hT
  have hPk := hP.2.2.2.2.2.1
  have hPn := hP.2.2.2.2.2.2.1
  have hdg : decode c.code (F0 m pc ls rest).pc = .ok (ig, 3) := by rw [hb]; exact hd
  rcases inv_core hC X₁ hx hG hAm hAW hP.2.1 (g := F0 m pc ls rest) rfl (hP.2.2.2.2.1.1.trans hml.symm) hdg (mRoom0 hr8) hn hc.2.1 hc.1 (Nat.le_trans hdep.1 hR1) (Nat.le_trans hdep.2 hR2) (by omega) (by omega) with ⟨v, h', T', L, hQ, X', hA, hs⟩ | ⟨x, a, cell, h', T', L, hQ, X', hA, hc1, hc2, hc3, hs⟩
  · obtain ⟨t, s1, s2⟩ := kr v h' hQ p e R s m args below meth c hF T'.heap (locs ++ L) ls (cells + k') (slots + n') (hP.aft (T := T.setVm vm₁) hT hA) T' rfl X'
    exact ⟨t, hstep t (fun acts => (hs acts).trans s1), s2⟩
  · obtain ⟨hm0, hq⟩ := kx x h' hQ
    have hout : ∀ z ∈ c.exceptionTable.toList, covers z (F0 m pc ls rest).pc = false := by
      intro z hz
      rw [hm0] at htab
      have h0 : c.exceptionTable.toList = [] := List.map_eq_nil_iff.mp htab
      rw [h0] at hz
      cases hz
    obtain ⟨w1, w2, w3, w4, w5⟩ := X'.leaveThrown a (g := F0 m pc ls rest) rfl rfl rfl hout hlocks
    have hP' := hP.aft (T := T.setVm vm₁) hT hA
    refine ⟨_, hstep _ (fun acts => (hs acts).trans w1), .threw a, w2, w3, ⟨⟨.inr x, h', ⟨a, cell, rfl, hc1, hc2, hc3⟩, hq, hP'.1, hP'.2.1, hP'.2.2.1⟩, hP'.2.2.2.1.F rfl⟩, locs ++ L, ⟨w4, w5.mono (by omega) (by omega)⟩, hP'.2.2.2.1.2.2⟩
end LinkRules
