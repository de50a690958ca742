section BoolRules
def bI (b : Bool) : Int32 := if b then 1 else 0
theorem bI_true : bI true = 1 := rfl
theorem bI_false : bI false = 0 := rfl
theorem bI_one {b : Bool} (h : b = true) : nI 1 = bI b := by subst h; rfl
theorem bI_zero {b : Bool} (h : b = false) : nI 0 = bI b := by subst h; rfl
theorem narB (b : Bool) : vp_nar .boolean (bI b) = bI b := by cases b <;> rfl
theorem narB' (b : Bool) : narrow .boolean (.int (bI b)) = .int (bI b) := by cases b <;> rfl
theorem resI {x z : Int32} (h : x = z) : (Sum.inl (some (Value.int x)) : ARes) = .inl (some (.int z)) := by rw [h]
theorem resL {x z : Int64} (h : x = z) : (Sum.inl (some (Value.long x)) : ARes) = .inl (some (.long z)) := by rw [h]
variable {G : Gt} {y : Mi} {B : Bt} {pc : Nat} {lv : List (Nat × Value)} {st : List Value} {h h1 : AHp} {k n : Nat}
theorem wp_if_eqB {b : Bool} {off : Int} {tgt : Nat} (hd : decode (mB y) pc = .ok (.ifCond .eq off, 3)) (ht : (pc : Int) + off = (tgt : Int)) (kt : b = false → WP G y B tgt lv st h k n) (kf : b = true → WP G y B (pc + 3) lv st h k n) : WP G y B pc lv (.int (bI b) :: st) h k n :=
  wp_if_eq hd ht (fun q => kt (by cases b with
    | false => rfl
    | true => exact absurd q (by decide))) (fun q => kf (by cases b with
    | true => rfl
    | false => exact absurd rfl q))
theorem wp_if_neB {b : Bool} {off : Int} {tgt : Nat} (hd : decode (mB y) pc = .ok (.ifCond .ne off, 3)) (ht : (pc : Int) + off = (tgt : Int)) (kt : b = true → WP G y B tgt lv st h k n) (kf : b = false → WP G y B (pc + 3) lv st h k n) : WP G y B pc lv (.int (bI b) :: st) h k n :=
  wp_if_ne hd ht (fun q => kt (by cases b with
    | true => rfl
    | false => exact absurd rfl q)) (fun q => kf (by cases b with
    | false => rfl
    | true => exact absurd q (by decide)))
theorem wp_callV {y' : Mi} {rest av : List Value} {d' w' r na : Nat} {ig : Instr} {v : Value} (hd : decode (mB y) pc = .ok (ig, 3)) (hL : Link G y B pc st rest av y' h) (hc : mCal y' na) (hC : CallR G y' d' w' av h 0 0 (some v) h1) (hr8 : (rest.map fun v => v.category).sum ≤ r) (hdep : d' + 1 ≤ Bd B ∧ r + (mL y' + 11) + w' ≤ Bw B)
    (kr : WP G y B (pc + 3) lv (v :: rest) h1 k n) : WP G y B pc lv st h k n := wp_callR (k' := 0) (n' := 0) hd hL hc hC hr8 hdep kr
theorem wp_callU {y' : Mi} {rest av : List Value} {d' w' r na : Nat} {ig : Instr} (hd : decode (mB y) pc = .ok (ig, 3)) (hL : Link G y B pc st rest av y' h) (hc : mCal y' na) (hC : CallR G y' d' w' av h 0 0 none h1) (hr8 : (rest.map fun v => v.category).sum ≤ r) (hdep : d' + 1 ≤ Bd B ∧ r + (mL y' + 11) + w' ≤ Bw B)
    (kr : WP G y B (pc + 3) lv rest h1 k n) : WP G y B pc lv st h k n := wp_callR (k' := 0) (n' := 0) hd hL hc hC hr8 hdep kr
end BoolRules
