section MoreRules
variable {G : Gt} {y : Mi} {B : Bt} {pc : Nat} {lv : List (Nat × Value)} {st : List Value} {h h1 : AHp} {k n : Nat}
theorem wp_toI {x z : Int32} (hx : x = z) (kk : WP G y B pc lv (.int z :: st) h k n) : WP G y B pc lv (.int x :: st) h k n := by rw [hx]; exact kk
theorem wp_toL {x z : Int64} (hx : x = z) (kk : WP G y B pc lv (.long z :: st) h k n) : WP G y B pc lv (.long x :: st) h k n := by rw [hx]; exact kk
theorem wp_heq (hh : h = h1) (kk : WP G y B pc lv st h1 k n) : WP G y B pc lv st h k n := by rw [hh]; exact kk
/-- the call returns v and leaves a world with P -/
def CallE (G : Gt) (y : Mi) (d w : Nat) (av : List Value) (h : AHp) (k n : Nat) (v : Option Value) (P : AHp → Prop) : Prop := CallS G y d w av h k n (fun r h' => r = .inl v ∧ P h')
theorem CallR.E {d w : Nat} {av : List Value} {v : Option Value} (hc : CallR G y d w av h k n v h1) {P : AHp → Prop} (hp : P h1) : CallE G y d w av h k n v P :=
  CallS.mono hc (Nat.le_refl _) (Nat.le_refl _) (Nat.le_refl _) (Nat.le_refl _) (fun r h' hq => ⟨hq.1, by rw [hq.2]; exact hp⟩)
theorem CallR.eq {d w : Nat} {av : List Value} {v v' : Option Value} {h2 : AHp} (hc : CallR G y d w av h k n v h1) (hv : v = v') (hh : h1 = h2) : CallR G y d w av h k n v' h2 := by rw [← hv, ← hh]; exact hc
theorem wp_callEV {y' : Mi} {rest av : List Value} {d' w' r na k' n' : Nat} {ig : Instr} {v : Value} {P : AHp → Prop} (hd : decode (mB y) pc = .ok (ig, 3)) (hL : Link G y B pc st rest av y' h) (hc : mCal y' na) (hC : CallE G y' d' w' av h k' n' (some v) P) (hr8 : (rest.map fun v => v.category).sum ≤ r) (hdep : d' + 1 ≤ Bd B ∧ r + (mL y' + 11) + w' ≤ Bw B)
    (kr : ∀ h', P h' → WP G y B (pc + 3) lv (v :: rest) h' k n) : WP G y B pc lv st h (k + k') (n + n') := by
  refine wp_call hd hL hc hC hr8 hdep (fun v' h' hq => ?_) (fun x h' hq => ?_)
  · obtain ⟨h2, h3⟩ := hq
    cases h2
    exact kr h' h3
  · cases hq.1
theorem wp_callEU {y' : Mi} {rest av : List Value} {d' w' r na k' n' : Nat} {ig : Instr} {P : AHp → Prop} (hd : decode (mB y) pc = .ok (ig, 3)) (hL : Link G y B pc st rest av y' h) (hc : mCal y' na) (hC : CallE G y' d' w' av h k' n' none P) (hr8 : (rest.map fun v => v.category).sum ≤ r) (hdep : d' + 1 ≤ Bd B ∧ r + (mL y' + 11) + w' ≤ Bw B)
    (kr : ∀ h', P h' → WP G y B (pc + 3) lv rest h' k n) : WP G y B pc lv st h (k + k') (n + n') := by
  refine wp_call hd hL hc hC hr8 hdep (fun v' h' hq => ?_) (fun x h' hq => ?_)
  · obtain ⟨h2, h3⟩ := hq
    cases h2
    exact kr h' h3
  · cases hq.1
end MoreRules
