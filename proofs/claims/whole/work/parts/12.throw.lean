section ThrowRules
def thN : List String := ["java/lang/RuntimeException", "java/lang/Exception"]
/-- words that a warmer machine keeps -/
def okW (w : Cond) : Bool := goodWord w || (match w with
  | .castable _ _ => true
  | .declares _ => true
  | _ => false)
theorem Gk.word2 {G : Gt} (hG : Gk G) {U : State} (hA : Amb (Gs G) U) {w : Cond} {a' : Array Value} (hw : w ∈ lw_tbl) (ho : okW w = true) : w.before a' U = true := by
  have h0 := hG.1 w hw
  by_cases hg : goodWord w = true
  · exact hA.word (good_of_word hg) h0
  · cases w with
    | castable C T => exact va_Nw.use rfl (va_Nw.warmC hA.1 (va_Nw.of rfl h0))
    | declares x => exact va_Nw.use rfl (va_Nw.warmD hA.1 (va_Nw.of rfl h0))
    | _ => exact absurd (by simpa [okW] using ho) hg
/-- the tables say what a throw of an exception x, made by the constructor at the pool's ic, needs -/
def thOK (own : String) (ic x : Nat) : Prop := Bundle.fit (excN x) = true ∧ (vx_atS own ic (excN x) thN).all (fun w => okW w && vx_ot w && decide (w ∈ lw_tbl)) = true
variable {G : Gt} {y : Mi} {B : Bt} {pc : Nat} {lv : List (Nat × Value)} {st : List Value} {h : AHp} {k n : Nat}
theorem Pt2.Zq {s : State} {H : Heap} {locs : List Loc} {ls : Array Slot} {cells slots : Nat} {C f d : String} (hP : Pt2 G y B s H locs ls lv h k n cells slots) (hA : Amb (Gs G) s) (hz : vx_Zq C f d (fun q => (Gs G).heap.size ≤ q) (Gs G) (Gs G).heap) : vx_Zq C f d (AA (Bh B) s.heap.size) s s.heap := by
  refine vx_Zq.narrow (vx_Zq.kept (vx_Zq.moved hA.1.alike hz) (fun a h1 _ => hA.2.2 a h1)) (fun q hq => ?_)
  rcases hq with hq | hq
  · exact hP.2.2.2.2.2.2.2.1 q hq
  · exact Nat.le_trans hA.2.1 hq
theorem mH0 {c : Code} (htab : c.exceptionTable.toList.map (fun h => (h.startPc, h.endPc, h.handlerPc, h.catchType)) = mH y) (hm0 : mH y = []) (q : Nat) : ∀ z ∈ c.exceptionTable.toList, covers z q = false := by
  intro z hz
  rw [hm0] at htab
  have h0 : c.exceptionTable.toList = [] := List.map_eq_nil_iff.mp htab
  rw [h0] at hz
  cases hz
theorem throw_end {x : Nat} {p : Program} {e : Env} {R : Room} {s : State} {m : MethodId} {args : Array Value} {below : List Frame} {meth : Method} {c : Code} {H : Heap} {locs : List Loc} {ls : Array Slot} {cells slots : Nat} {g : JFrame} (hP : Pt2 G y B s H locs ls lv h (k + 1) (n + 6) cells slots) (hA : Amb (Gs G) s) (hq : BQ B (.inr x) h)
    (hw : W p (Gl G) e R s m args below meth c H locs cells slots (vx_MQ below (fun _ _ _ _ => False) (fun E _ t => E = excN x ∧ H.size ≤ t.heap.size ∧ ∀ q : Nat, q < H.size → t.heap[q]? = H[q]?) args s (Bk B) (Bn B) (AA (Bh B) s.heap.size)) g) :
    W p (Gl G) e R s m args below meth c H locs cells slots (MQT below (CQ G B s.heap.size) args s (Bk B) (Bn B) (AA (Bh B) s.heap.size)) g := by
  intro T hT X
  obtain ⟨t, a1, o, b1, b2, b3⟩ := hw T hT X
  rcases b3 with ⟨b3, -⟩ | ⟨q, rfl, E, ce, L, ⟨rfl, hz, hk⟩, hce, hv, hcl, hW, hsm, hL⟩
  · exact b3.elim
  · have hAW : AW (GD G) (GA G) h t.heap := fun a o ha => (hP.1 a o ha).kept (hk a (hP.1 a o ha).lt)
    refine ⟨t, a1, .threw q, b1, b2, ⟨⟨.inr x, h, ⟨q, ce, rfl, hce, hv, ?_⟩, hq, hAW, hP.2.1, hP.2.2.1⟩, Nat.le_trans hP.2.2.2.1.1 hz, fun a h1 h2 => ?_⟩, L, ⟨hW, hsm⟩, hL⟩
    · rw [← hcl, hA.1.alike.findClass]
    · exact (hk a (Nat.lt_of_lt_of_le h1 hP.2.2.2.1.1)).trans (hP.2.2.2.1.2.1 a h1 h2)
theorem wp_throwS {x ik is ic : Nat} {text : String} (d0 : decode (mB y) pc = .ok (.new ik, 3)) (d3 : decode (mB y) (pc + 3) = .ok (.dup, 1)) (d4 : decode (mB y) (pc + 4) = .ok (.ldc is, 2)) (d6 : decode (mB y) (pc + 6) = .ok (.invokespecial ic, 3)) (d9 : decode (mB y) (pc + 9) = .ok (.athrow, 1))
    (hth : thOK (mN y).cls ic x) (hw : GoodIn lw_tbl [Cond.classLink (mN y).cls ik (excN x), .initialized (excN x)]) (hs : Cond.stringRef (mN y).cls is text ∈ lw_tbl) (hm0 : mH y = []) (hdep : 6 ≤ Bd B ∧ (st.map fun v => v.category).sum + 82 ≤ Bw B) (hq : BQ B (.inr x) h) : WP G y B pc lv st h (k + 1) (n + 6) := by
  intro p e R s m args below meth c hF H locs ls cells slots hP
  obtain ⟨hx, hb, -, hml, hown, hlocks, -, htab, hamb, hR1, hR2, hR3, hR4, hG⟩ := id hF
  obtain ⟨sa, hsa, -⟩ := hG.2.2.2.2.2.2 _ _ _ hs
  have hws := hG.words (a' := args) hamb hw
  have hall := List.all_eq_true.mp hth.2
  have hPk := hP.2.2.2.2.2.1
  have hPn := hP.2.2.2.2.2.2.1
  refine throw_end hP hamb hq ?_
  refine vx_throwS (cls := excN x) (names := thN) (text := text) (sa := sa) (A := AA (Bh B) s.heap.size) hx hb hG.2.2.1 hown hth.1 (by decide) (hws _ List.mem_cons_self) (hws _ (List.mem_cons_of_mem _ List.mem_cons_self)) (vk_R.warm hamb.1 hsa) (fun w hw1 => ?_) (fun w hw1 => ?_)
    (hP.Zq hamb hG.2.2.2.1) (hP.Zq hamb hG.2.2.2.2.1) hP.2.2.2.1 (hP.2.2.2.2.1.1.trans hml.symm) d0 d3 d4 d6 d9 (mH0 htab hm0 _) (by show 2 + 3 < R.frames; omega) (by show _ + (13 * (2 + 1) + 43) ≤ _; omega) (by omega) (by omega) hlocks (fun t _ h1 h2 => ⟨rfl, h1, h2⟩) hP.2.2.2.1.2.2 (by omega) (by omega)
  · have h9 := hall w hw1
    simp only [Bool.and_eq_true, decide_eq_true_eq] at h9
    exact hG.word2 hamb h9.2 h9.1.1
  · rcases List.mem_cons.mp hw1 with rfl | hw1
    · rfl
    · rcases List.mem_cons.mp hw1 with rfl | hw1
      · rfl
      · have h9 := hall w hw1
        simp only [Bool.and_eq_true, decide_eq_true_eq] at h9
        exact h9.1.2
theorem wp_throwSW {x ik is ic : Nat} {text : String} (d0 : decode (mB y) pc = .ok (.new ik, 3)) (d3 : decode (mB y) (pc + 3) = .ok (.dup, 1)) (d4 : decode (mB y) (pc + 4) = .ok (.ldc_w is, 3)) (d7 : decode (mB y) (pc + 7) = .ok (.invokespecial ic, 3)) (d10 : decode (mB y) (pc + 10) = .ok (.athrow, 1))
    (hth : thOK (mN y).cls ic x) (hw : GoodIn lw_tbl [Cond.classLink (mN y).cls ik (excN x), .initialized (excN x)]) (hs : Cond.stringRef (mN y).cls is text ∈ lw_tbl) (hm0 : mH y = []) (hdep : 6 ≤ Bd B ∧ (st.map fun v => v.category).sum + 82 ≤ Bw B) (hq : BQ B (.inr x) h) : WP G y B pc lv st h (k + 1) (n + 6) := by
  intro p e R s m args below meth c hF H locs ls cells slots hP
  obtain ⟨hx, hb, -, hml, hown, hlocks, -, htab, hamb, hR1, hR2, hR3, hR4, hG⟩ := id hF
  obtain ⟨sa, hsa, -⟩ := hG.2.2.2.2.2.2 _ _ _ hs
  have hws := hG.words (a' := args) hamb hw
  have hall := List.all_eq_true.mp hth.2
  have hPk := hP.2.2.2.2.2.1
  have hPn := hP.2.2.2.2.2.2.1
  refine throw_end hP hamb hq ?_
  refine vx_throwSW (cls := excN x) (names := thN) (text := text) (sa := sa) (A := AA (Bh B) s.heap.size) hx hb hG.2.2.1 hown hth.1 (by decide) (hws _ List.mem_cons_self) (hws _ (List.mem_cons_of_mem _ List.mem_cons_self)) (vk_R.warm hamb.1 hsa) (fun w hw1 => ?_) (fun w hw1 => ?_)
    (hP.Zq hamb hG.2.2.2.1) (hP.Zq hamb hG.2.2.2.2.1) hP.2.2.2.1 (hP.2.2.2.2.1.1.trans hml.symm) d0 d3 d4 d7 d10 (mH0 htab hm0 _) (by show 2 + 3 < R.frames; omega) (by show _ + (13 * (2 + 1) + 43) ≤ _; omega) (by omega) (by omega) hlocks (fun t _ h1 h2 => ⟨rfl, h1, h2⟩) hP.2.2.2.1.2.2 (by omega) (by omega)
  · have h9 := hall w hw1
    simp only [Bool.and_eq_true, decide_eq_true_eq] at h9
    exact hG.word2 hamb h9.2 h9.1.1
  · rcases List.mem_cons.mp hw1 with rfl | hw1
    · rfl
    · rcases List.mem_cons.mp hw1 with rfl | hw1
      · rfl
      · have h9 := hall w hw1
        simp only [Bool.and_eq_true, decide_eq_true_eq] at h9
        exact h9.1.2
/-- an exception x, thrown at pc, is caught at hp -/
def Catch (own : String) (hs : List (Nat × Nat × Nat × Nat)) (pc x hp : Nat) : Prop := ∃ (pre : List (Nat × Nat × Nat × Nat)) (a b ct : Nat) (suf : List (Nat × Nat × Nat × Nat)) (nm : String), hs = pre ++ (a, b, hp, ct) :: suf ∧ (a ≤ pc ∧ pc < b) ∧ ct ≠ 0 ∧ GoodIn lw_tbl [Cond.classLink own ct nm] ∧ Cond.castable (excN x) nm ∈ lw_tbl ∧
  ∀ z ∈ pre, x = 1 ∧ z.2.2.2 ≠ 0 ∧ GoodIn lw_tbl [Cond.classLink own z.2.2.2 (excN 0)]
theorem wp_callH {y' : Mi} {rest av : List Value} {d' w' r k' n' na : Nat} {ig : Instr} {Q' : ARes → AHp → Prop} (hd : decode (mB y) pc = .ok (ig, 3)) (hL : Link G y B pc st rest av y' h) (hc : mCal y' na) (hC : CallS G y' d' w' av h k' n' Q') (hr8 : (rest.map fun v => v.category).sum ≤ r) (hdep : d' + 1 ≤ Bd B ∧ r + (mL y' + 11) + w' ≤ Bw B)
    (kr : ∀ (v : Option Value) (h' : AHp), Q' (.inl v) h' → WP G y B (pc + 3) lv (v.toList ++ rest) h' k n) (kx : ∀ (x : Nat) (h' : AHp), Q' (.inr x) h' → ∃ hp, Catch (mN y).cls (mH y) pc x hp ∧ ∀ a : Nat, WP G y B hp lv [.ref a] h' k n) : WP G y B pc lv st h (k + k') (n + n') := by
  intro p e R s m args below meth c hF H locs ls cells slots hP T hT X
  obtain ⟨hx, hb, -, hml, hown, hlocks, -, htab, hamb, hR1, hR2, hR3, hR4, hG⟩ := id hF
  have hAW : AW (GD G) (GA G) h T.heap := by rw [hT]; exact hP.1
  obtain ⟨vm₁, mk, X₁, hn, hstep⟩ := hL p e R s m args below meth c hF T locs ls cells slots hAW X
  have hAm : Amb (Gs G) (T.setVm vm₁) := hP.amb hamb X₁ hT
  have hPk := hP.2.2.2.2.2.1
  have hPn := hP.2.2.2.2.2.2.1
  have hdg : decode c.code (F0 m pc ls rest).pc = .ok (ig, 3) := by rw [hb]; exact hd
  rcases inv_core hC X₁ hx hG hAm hAW hP.2.1 (g := F0 m pc ls rest) rfl (hP.2.2.2.2.1.1.trans hml.symm) hdg (mRoom0 hr8) hn hc.2.1 hc.1 (Nat.le_trans hdep.1 hR1) (Nat.le_trans hdep.2 hR2) (by omega) (by omega) with ⟨v, h', T', L, hQ, X', hA, hs⟩ | ⟨x, a, cell, h', T', L, hQ, X', hA, hc1, hc2, hc3, hs⟩
  · obtain ⟨t, s1, s2⟩ := kr v h' hQ p e R s m args below meth c hF T'.heap (locs ++ L) ls (cells + k') (slots + n') (hP.aft (T := T.setVm vm₁) hT hA) T' rfl X'
    exact ⟨t, hstep t (fun acts => (hs acts).trans s1), s2⟩
  · obtain ⟨hp, ⟨pre, q1, q2, ct, suf, nm, hsp, ⟨hq1, hq2⟩, hct, hcl, hca, hpass⟩, hk⟩ := kx x h' hQ
    have hP' := hP.aft (T := T.setVm vm₁) hT hA
    rw [hsp] at htab
    obtain ⟨pre0, r0, e0, e1, e2⟩ := List.map_eq_append_iff.mp htab
    obtain ⟨x0, suf0, e3, e4, e5⟩ := List.map_eq_cons_iff.mp e2
    have f1 : x0.startPc = q1 := congrArg (fun q => q.1) e4
    have f2 : x0.endPc = q2 := congrArg (fun q => q.2.1) e4
    have f3 : x0.handlerPc = hp := congrArg (fun q => q.2.2.1) e4
    have f4 : x0.catchType = ct := congrArg (fun q => q.2.2.2) e4
    obtain ⟨t, s1, s2⟩ := vx_catch (Q := MQT below (CQ G B s.heap.size) args s (Bk B) (Bn B) (AA (Bh B) s.heap.size)) (pc := pc) (rest := rest) (ls := ls) (E := excN x) (name := nm) (q := a) (ce := cell) hown pre0 x0 suf0 (by rw [e0, e3]) (fun z hz => by
        obtain ⟨g1, g2, g3⟩ := hpass _ (by rw [← e1]; exact List.mem_map.mpr ⟨z, hz, rfl⟩)
        refine Or.inr ⟨g2, excN 0, hG.words hamb g3 _ List.mem_cons_self, ?_⟩
        rw [g1]
        exact va_Nc.moved hamb.1.alike hG.2.2.2.2.2.1) (by simp [covers, f1, f2, hq1, hq2]) (by rw [f4]; exact hct) (by rw [f4]; exact hG.words hamb hcl _ List.mem_cons_self) (hG.word2 hamb hca (by simp [okW])) hc1 hc2 (by rw [hamb.1.alike.findClass]; exact hc3)
      (by rw [f3]; exact hk a p e R s m args below meth c hF T'.heap (locs ++ L) ls (cells + k') (slots + n') hP') T' rfl X'
    exact ⟨t, hstep t (fun acts => (hs acts).trans s1), s2⟩
theorem wp_objInit {idx a : Nat} (hd : decode (mB y) pc = .ok (.invokespecial idx, 3)) (hw : GoodIn lw_tbl [Cond.methodLink (mN y).cls idx Lib.objectInit, .instanceMethod Lib.objectInit, .code Lib.objectInit ⟨#[0xb1]⟩ 1 none]) (hdep : 1 ≤ Bd B ∧ (st.map fun v => v.category).sum + 12 ≤ Bw B) (kk : WP G y B (pc + 3) lv st h k n) : WP G y B pc lv (.ref a :: st) h k n := by
  intro p e R s m args below meth c hF H locs ls cells slots hP
  obtain ⟨hx, hb, -, hml, hown, hlocks, -, htab, hamb, hR1, hR2, hR3, hR4, hG⟩ := id hF
  have hws := hG.words (a' := args) hamb hw
  refine W.objInit hx hb hown (hws _ List.mem_cons_self) (hws _ (List.mem_cons_of_mem _ List.mem_cons_self)) (hws _ (List.mem_cons_of_mem _ (List.mem_cons_of_mem _ List.mem_cons_self))) rfl (hP.2.2.2.2.1.1.trans hml.symm) rfl hd (Nat.le_trans hdep.1 hR1) (by show 2 * 0 + _ + 12 ≤ _; have := hdep.2; omega) ?_
  exact kk p e R s m args below meth c hF H locs ls cells slots hP
theorem wp_ldci {idx : Nat} {v : Int32} (hd : decode (mB y) pc = .ok (.ldc idx, 2)) (hw : GoodIn lw_tbl [Cond.constant (mN y).cls idx v]) (kk : WP G y B (pc + 2) lv (.int v :: st) h k n) : WP G y B pc lv st h k n := by
  intro p e R s m args below meth c hF H locs ls cells slots hP
  obtain ⟨hx, hb, -, -, hown, -, -, -, hamb, -, -, -, -, hG⟩ := id hF
  exact lv_ldc hx hb hown (hG.words hamb hw _ List.mem_cons_self) hd (kk p e R s m args below meth c hF H locs ls cells slots hP)
theorem wp_ldc2 {idx : Nat} {v : Int64} (hd : decode (mB y) pc = .ok (.ldc2_w idx, 3)) (hw : GoodIn lw_tbl [Cond.constantLong (mN y).cls idx v]) (kk : WP G y B (pc + 3) lv (.long v :: st) h k n) : WP G y B pc lv st h k n := by
  intro p e R s m args below meth c hF H locs ls cells slots hP
  obtain ⟨hx, hb, -, -, hown, -, -, -, hamb, -, -, -, -, hG⟩ := id hF
  exact lv_ldc2 hx hb hown (hG.words hamb hw _ List.mem_cons_self) hd (kk p e R s m args below meth c hF H locs ls cells slots hP)
theorem wp_ldcS {idx : Nat} {tx : String} (hd : decode (mB y) pc = .ok (.ldc idx, 2)) (hs : Cond.stringRef (mN y).cls idx tx ∈ lw_tbl) (kk : ∀ a : Nat, vk_R (mN y).cls idx tx a (Gs G) → strOK (Gs G) a (tx.toList.map Char.toNat) → WP G y B (pc + 2) lv (.ref a :: st) h k n) : WP G y B pc lv st h k n := by
  intro p e R s m args below meth c hF H locs ls cells slots hP
  obtain ⟨hx, hb, -, -, hown, -, -, -, hamb, -, -, -, -, hG⟩ := id hF
  obtain ⟨a, ha, hst⟩ := hG.2.2.2.2.2.2 _ _ _ hs
  exact va_ldcS hx hb hown (vk_R.warm hamb.1 ha) hd (kk a ha hst p e R s m args below meth c hF H locs ls cells slots hP)
end ThrowRules
