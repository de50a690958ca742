section CModel
/-! the world of the class: K: what stands at an address (0: nothing; c + 1: an object of class c; 20 + t: an array of type t), N: lengths; I, R, L: fields (number, address); E, El, Er: elements (address, place) -/
def oN (I : Nat → Nat → Int32) (R : Nat → Nat → Option Nat) (L : Nat → Nat → Int64) (c q : Nat) : List Value := match c with
  | 0 => [va_rf (R 0 q), va_rf (R 1 q), va_rf (R 2 q), va_rf (R 3 q), va_rf (R 4 q), .int (I 5 q), .int (I 6 q)]
  | 1 => [va_rf (R 7 q), va_rf (R 8 q), va_rf (R 9 q), .int (I 10 q), .int (I 11 q), .int (I 12 q), .int (I 13 q)]
  | 2 => [va_rf (R 14 q), .int (I 15 q), .int (I 16 q), va_rf (R 17 q)]
  | 3 => [va_rf (R 18 q), va_rf (R 19 q), .int (I 20 q)]
  | 4 => [va_rf (R 21 q), va_rf (R 22 q), .int (I 23 q), .int (I 24 q), .int (I 25 q), .int (I 26 q), .int (I 27 q)]
  | 5 => [.long (L 28 q), .int (I 29 q), .int (I 30 q), .int (I 31 q)]
  | 6 => [.int (I 32 q), va_rf (R 33 q), .int (I 34 q)]
  | 7 => [va_rf (R 35 q), .int (I 36 q), .int (I 37 q)]
  | 8 => [.int (I 38 q), .int (I 39 q), va_rf (R 40 q), va_rf (R 41 q), .int (I 42 q)]
  | 9 => [va_rf (R 43 q), va_rf (R 44 q), .int (I 45 q), .int (I 46 q), .int (I 47 q)]
  | 10 => [va_rf (R 48 q), va_rf (R 49 q), va_rf (R 50 q), .int (I 51 q), .int (I 52 q), .int (I 53 q), .int (I 54 q), .int (I 55 q)]
  | _ => []
def arN (E : Nat → Nat → Int32) (El : Nat → Nat → Int64) (Er : Nat → Nat → Option Nat) (t q : Nat) : (Nat → Int32) ⊕ (Nat → Int64) ⊕ (Nat → UInt32) ⊕ (Nat → UInt64) ⊕ (Nat → Option Nat) := if t = 1 then .inr (.inl (El q)) else if 4 ≤ t then .inr (.inr (.inr (.inr (Er q)))) else .inl (E q)
def hN (K N : Nat → Nat) (I : Nat → Nat → Int32) (R : Nat → Nat → Option Nat) (L : Nat → Nat → Int64) (E : Nat → Nat → Int32) (El : Nat → Nat → Int64) (Er : Nat → Nat → Option Nat) : AHp := fun q => if K q = 0 then none else if K q < 20 then some (.inr (K q - 1, oN I R L (K q - 1) q)) else some (.inl (K q - 20, N q, arN E El Er (K q - 20) q))
def u2r (M : Nat → Nat → Option Nat) (j i : Nat) (x : Option Nat) : Nat → Nat → Option Nat := va_up M j (va_up (M j) i x)
theorem u2r_ne (M : Nat → Nat → Option Nat) {j i a : Nat} (x : Option Nat) (h : a ≠ j) : u2r M j i x a = M a := by
  unfold u2r va_up
  rw [if_neg h]
theorem u2r_at (M : Nat → Nat → Option Nat) (j i b : Nat) (x : Option Nat) : u2r M j i x j b = if b = i then x else M j b := by
  simp [u2r, va_up]
theorem u2_q (M : Nat → Nat → Int32) {j i a b : Nat} (x : Int32) (h : b ≠ i) : u2 M j i x a b = M a b := by
  by_cases ha : a = j
  · subst ha
    rw [u2_at, if_neg h]
  · rw [u2_ne _ _ ha]
theorem u2r_q (M : Nat → Nat → Option Nat) {j i a b : Nat} (x : Option Nat) (h : b ≠ i) : u2r M j i x a b = M a b := by
  by_cases ha : a = j
  · subst ha
    rw [u2r_at, if_neg h]
  · rw [u2r_ne _ _ ha]
theorem u2l_q (M : Nat → Nat → Int64) {j i a b : Nat} (x : Int64) (h : b ≠ i) : u2l M j i x a b = M a b := by
  by_cases ha : a = j
  · subst ha
    rw [u2l_at, if_neg h]
  · rw [u2l_ne _ _ ha]
theorem oN_congr {I I' : Nat → Nat → Int32} {R R' : Nat → Nat → Option Nat} {L L' : Nat → Nat → Int64} {q : Nat} (h1 : ∀ g, I' g q = I g q) (h2 : ∀ g, R' g q = R g q) (h3 : ∀ g, L' g q = L g q) (c : Nat) : oN I' R' L' c q = oN I R L c q := by
  unfold oN
  split <;> simp only [h1, h2, h3]
variable {K N : Nat → Nat} {I : Nat → Nat → Int32} {R : Nat → Nat → Option Nat} {L : Nat → Nat → Int64} {E : Nat → Nat → Int32} {El : Nat → Nat → Int64} {Er : Nat → Nat → Option Nat} {r : Nat}
theorem hN_o {ci : Nat} (hk : K r = ci + 1) (hc : ci < 11) : hN K N I R L E El Er r = some (.inr (ci, oN I R L ci r)) := by
  unfold hN
  rw [if_neg (by omega), if_pos (by omega), hk]
  rfl
theorem hN_a {t : Nat} (hk : K r = 20 + t) : hN K N I R L E El Er r = some (.inl (t, N r, arN E El Er t r)) := by
  unfold hN
  rw [if_neg (by omega), if_neg (by omega), hk, show 20 + t - 20 = t by omega]
theorem hN_0 : hN K N I R L E El Er r = none ↔ K r = 0 := by
  unfold hN
  split
  · simp [*]
  · split <;> simp [*]
theorem hN_put {I' : Nat → Nat → Int32} {R' : Nat → Nat → Option Nat} {L' : Nat → Nat → Int64} {ci : Nat} {fs : List Value} (hk : K r = ci + 1) (hc : ci < 11) (hs : fs = oN I' R' L' ci r) (h1 : ∀ q, q ≠ r → (∀ g, I' g q = I g q) ∧ (∀ g, R' g q = R g q) ∧ ∀ g, L' g q = L g q) : hup (hN K N I R L E El Er) r (.inr (ci, fs)) = hN K N I' R' L' E El Er := by
  funext q
  by_cases hq : q = r
  · subst hq
    rw [hup_eq, hs, hN_o hk hc]
  · rw [hup_ne hq]
    unfold hN
    rw [oN_congr (h1 q hq).1 (h1 q hq).2.1 (h1 q hq).2.2]
theorem hN_st {E' : Nat → Nat → Int32} {El' : Nat → Nat → Int64} {Er' : Nat → Nat → Option Nat} {t : Nat} {x : vp_A} (hk : K r = 20 + t) (hs : x = (N r, arN E' El' Er' t r)) (h1 : ∀ q, q ≠ r → E' q = E q ∧ El' q = El q ∧ Er' q = Er q) : hup (hN K N I R L E El Er) r (.inl (t, x)) = hN K N I R L E' El' Er' := by
  funext q
  by_cases hq : q = r
  · subst hq
    rw [hup_eq, hs, hN_a hk]
  · rw [hup_ne hq]
    unfold hN arN
    rw [(h1 q hq).1, (h1 q hq).2.1, (h1 q hq).2.2]
theorem dne {q : Nat} (hr : K r ≠ 0) (hq : K q = 0) : q ≠ r := fun e => hr (by rw [← e]; exact hq)
/-- where nothing stands, all is as when made -/
def DF (K : Nat → Nat) (I : Nat → Nat → Int32) (R : Nat → Nat → Option Nat) (L : Nat → Nat → Int64) (E : Nat → Nat → Int32) (El : Nat → Nat → Int64) (Er : Nat → Nat → Option Nat) : Prop := ∀ q, K q = 0 → (∀ g, I g q = 0) ∧ (∀ g, R g q = none) ∧ (∀ g, L g q = 0) ∧ (∀ i, E q i = 0) ∧ (∀ i, El q i = 0) ∧ ∀ i, Er q i = none
theorem DF.pI {g : Nat} {x : Int32} (h : DF K I R L E El Er) (hr : K r ≠ 0) : DF K (u2 I g r x) R L E El Er := fun q hq => ⟨fun i => (u2_q _ _ (dne hr hq)).trans ((h q hq).1 i), (h q hq).2⟩
theorem DF.pR {g : Nat} {x : Option Nat} (h : DF K I R L E El Er) (hr : K r ≠ 0) : DF K I (u2r R g r x) L E El Er := fun q hq => ⟨(h q hq).1, fun i => (u2r_q _ _ (dne hr hq)).trans ((h q hq).2.1 i), (h q hq).2.2⟩
theorem DF.pL {g : Nat} {x : Int64} (h : DF K I R L E El Er) (hr : K r ≠ 0) : DF K I R (u2l L g r x) E El Er := fun q hq => ⟨(h q hq).1, (h q hq).2.1, fun i => (u2l_q _ _ (dne hr hq)).trans ((h q hq).2.2.1 i), (h q hq).2.2.2⟩
theorem DF.pE {i : Nat} {x : Int32} (h : DF K I R L E El Er) (hr : K r ≠ 0) : DF K I R L (u2 E r i x) El Er := fun q hq => ⟨(h q hq).1, (h q hq).2.1, (h q hq).2.2.1, fun j => by rw [u2_ne _ _ (dne hr hq)]; exact (h q hq).2.2.2.1 j, (h q hq).2.2.2.2⟩
theorem DF.pEl {i : Nat} {x : Int64} (h : DF K I R L E El Er) (hr : K r ≠ 0) : DF K I R L E (u2l El r i x) Er := fun q hq => ⟨(h q hq).1, (h q hq).2.1, (h q hq).2.2.1, (h q hq).2.2.2.1, fun j => by rw [u2l_ne _ _ (dne hr hq)]; exact (h q hq).2.2.2.2.1 j, (h q hq).2.2.2.2.2⟩
theorem DF.pEr {i : Nat} {x : Option Nat} (h : DF K I R L E El Er) (hr : K r ≠ 0) : DF K I R L E El (u2r Er r i x) := fun q hq => ⟨(h q hq).1, (h q hq).2.1, (h q hq).2.2.1, (h q hq).2.2.2.1, (h q hq).2.2.2.2.1, fun j => by rw [u2r_ne _ _ (dne hr hq)]; exact (h q hq).2.2.2.2.2 j⟩
theorem DF.pK {q v : Nat} (h : DF K I R L E El Er) (hv : v ≠ 0) : DF (va_up K q v) I R L E El Er := fun p hp => h p (by
  unfold va_up at hp
  split at hp
  · exact absurd hp hv
  · exact hp)
theorem kup {q v c : Nat} (hq : K q = 0) (hr : K r = c + 1) : va_up K q v r = c + 1 := by
  unfold va_up
  rw [if_neg (fun e => by rw [e, hq] at hr; omega), hr]
theorem kupA {q v c : Nat} (hq : K q = 0) (hr : K r = 20 + c) : va_up K q v r = 20 + c := by
  unfold va_up
  rw [if_neg (fun e => by rw [e, hq] at hr; omega), hr]
theorem kat (K : Nat → Nat) (q v : Nat) : va_up K q v q = v := by simp [va_up]
theorem knz {c : Nat} (h : K r = c + 1) : K r ≠ 0 := by omega
theorem knzA {c : Nat} (h : K r = 20 + c) : K r ≠ 0 := by omega
theorem kne {q : Nat} (hq : K q = 0) (hr : K r ≠ 0) : r ≠ q := fun e => hr (e ▸ hq)
variable {G : Gt} {y : Mi} {B : Bt} {pc : Nat} {lv : List (Nat × Value)} {st : List Value} {k n : Nat}
theorem wn_get_Net {idx : Nat} {v : Value} (hd : decode (mB y) pc = .ok (.getfield idx, 3)) (hk : K r = 0 + 1) (j : Nat) (hj : j < 7) (hw : GoodIn lw_tbl [Cond.fieldLink (mN y).cls idx (T_Net j).1 (T_Net j).2.1 (T_Net j).2.2.1]) (hv : (oN I R L 0 r)[j]? = some v) (kk : WP G y B (pc + 3) lv (v :: st) (hN K N I R L E El Er) k n) : WP G y B pc lv (.ref r :: st) (hN K N I R L E El Er) k n :=
  wp_get (C := R_Net) (T := T_Net) (N := 7) hd (hN_o hk (by decide)) rfl g_Net j hj hw hv kk
theorem wn_put_Net {I' : Nat → Nat → Int32} {R' : Nat → Nat → Option Nat} {L' : Nat → Nat → Int64} {idx : Nat} {v : Value} {ty : FieldType} (hd : decode (mB y) pc = .ok (.putfield idx, 3)) (hk : K r = 0 + 1) (j : Nat) (hj : j < 7) (hw : GoodIn lw_tbl [Cond.fieldLink (mN y).cls idx (T_Net j).1 (T_Net j).2.1 (T_Net j).2.2.1]) (hfin : (T_Net j).2.2.2 = false) (hde : parseFieldDescriptor (T_Net j).2.2.1 = some ty) (hn : narrow ty v = v) (hfit : fits ty v = true) (hs : (oN I R L 0 r).set j v = oN I' R' L' 0 r) (h1 : ∀ q, q ≠ r → (∀ g, I' g q = I g q) ∧ (∀ g, R' g q = R g q) ∧ ∀ g, L' g q = L g q) (kk : WP G y B (pc + 3) lv st (hN K N I' R' L' E El Er) k n) : WP G y B pc lv (v :: .ref r :: st) (hN K N I R L E El Er) k n := by
  refine wp_put (C := R_Net) (T := T_Net) (N := 7) (ty := ty) hd (hN_o hk (by decide)) rfl g_Net t_Net t_Net_ok n_Net j hj hw hfin hde hn hfit (by show j < 7; exact hj) ?_
  rw [hN_put hk (by decide) hs h1]
  exact kk
theorem wn_putF_Net {I' : Nat → Nat → Int32} {R' : Nat → Nat → Option Nat} {L' : Nat → Nat → Int64} {idx : Nat} {v : Value} {ty : FieldType} (hd : decode (mB y) pc = .ok (.putfield idx, 3)) (hk : K r = 0 + 1) (j : Nat) (hj : j < 7) (hw : GoodIn lw_tbl [Cond.fieldLink (mN y).cls idx (T_Net j).1 (T_Net j).2.1 (T_Net j).2.2.1]) (hfin : (T_Net j).2.2.2 = true) (hinit : (mN y).name = "<init>") (hdecl : (T_Net j).1 = (mN y).cls) (hde : parseFieldDescriptor (T_Net j).2.2.1 = some ty) (hn : narrow ty v = v) (hfit : fits ty v = true) (hs : (oN I R L 0 r).set j v = oN I' R' L' 0 r) (h1 : ∀ q, q ≠ r → (∀ g, I' g q = I g q) ∧ (∀ g, R' g q = R g q) ∧ ∀ g, L' g q = L g q) (kk : WP G y B (pc + 3) lv st (hN K N I' R' L' E El Er) k n) : WP G y B pc lv (v :: .ref r :: st) (hN K N I R L E El Er) k n := by
  refine wp_putF (C := R_Net) (T := T_Net) (N := 7) (ty := ty) hd (hN_o hk (by decide)) rfl g_Net t_Net t_Net_ok n_Net j hj hw hfin hinit hdecl hde hn hfit (by show j < 7; exact hj) ?_
  rw [hN_put hk (by decide) hs h1]
  exact kk
theorem wn_get_Chn {idx : Nat} {v : Value} (hd : decode (mB y) pc = .ok (.getfield idx, 3)) (hk : K r = 1 + 1) (j : Nat) (hj : j < 7) (hw : GoodIn lw_tbl [Cond.fieldLink (mN y).cls idx (T_Chn j).1 (T_Chn j).2.1 (T_Chn j).2.2.1]) (hv : (oN I R L 1 r)[j]? = some v) (kk : WP G y B (pc + 3) lv (v :: st) (hN K N I R L E El Er) k n) : WP G y B pc lv (.ref r :: st) (hN K N I R L E El Er) k n :=
  wp_get (C := R_Chn) (T := T_Chn) (N := 7) hd (hN_o hk (by decide)) rfl g_Chn j hj hw hv kk
theorem wn_put_Chn {I' : Nat → Nat → Int32} {R' : Nat → Nat → Option Nat} {L' : Nat → Nat → Int64} {idx : Nat} {v : Value} {ty : FieldType} (hd : decode (mB y) pc = .ok (.putfield idx, 3)) (hk : K r = 1 + 1) (j : Nat) (hj : j < 7) (hw : GoodIn lw_tbl [Cond.fieldLink (mN y).cls idx (T_Chn j).1 (T_Chn j).2.1 (T_Chn j).2.2.1]) (hfin : (T_Chn j).2.2.2 = false) (hde : parseFieldDescriptor (T_Chn j).2.2.1 = some ty) (hn : narrow ty v = v) (hfit : fits ty v = true) (hs : (oN I R L 1 r).set j v = oN I' R' L' 1 r) (h1 : ∀ q, q ≠ r → (∀ g, I' g q = I g q) ∧ (∀ g, R' g q = R g q) ∧ ∀ g, L' g q = L g q) (kk : WP G y B (pc + 3) lv st (hN K N I' R' L' E El Er) k n) : WP G y B pc lv (v :: .ref r :: st) (hN K N I R L E El Er) k n := by
  refine wp_put (C := R_Chn) (T := T_Chn) (N := 7) (ty := ty) hd (hN_o hk (by decide)) rfl g_Chn t_Chn t_Chn_ok n_Chn j hj hw hfin hde hn hfit (by show j < 7; exact hj) ?_
  rw [hN_put hk (by decide) hs h1]
  exact kk
theorem wn_putF_Chn {I' : Nat → Nat → Int32} {R' : Nat → Nat → Option Nat} {L' : Nat → Nat → Int64} {idx : Nat} {v : Value} {ty : FieldType} (hd : decode (mB y) pc = .ok (.putfield idx, 3)) (hk : K r = 1 + 1) (j : Nat) (hj : j < 7) (hw : GoodIn lw_tbl [Cond.fieldLink (mN y).cls idx (T_Chn j).1 (T_Chn j).2.1 (T_Chn j).2.2.1]) (hfin : (T_Chn j).2.2.2 = true) (hinit : (mN y).name = "<init>") (hdecl : (T_Chn j).1 = (mN y).cls) (hde : parseFieldDescriptor (T_Chn j).2.2.1 = some ty) (hn : narrow ty v = v) (hfit : fits ty v = true) (hs : (oN I R L 1 r).set j v = oN I' R' L' 1 r) (h1 : ∀ q, q ≠ r → (∀ g, I' g q = I g q) ∧ (∀ g, R' g q = R g q) ∧ ∀ g, L' g q = L g q) (kk : WP G y B (pc + 3) lv st (hN K N I' R' L' E El Er) k n) : WP G y B pc lv (v :: .ref r :: st) (hN K N I R L E El Er) k n := by
  refine wp_putF (C := R_Chn) (T := T_Chn) (N := 7) (ty := ty) hd (hN_o hk (by decide)) rfl g_Chn t_Chn t_Chn_ok n_Chn j hj hw hfin hinit hdecl hde hn hfit (by show j < 7; exact hj) ?_
  rw [hN_put hk (by decide) hs h1]
  exact kk
theorem wn_get_Cpy {idx : Nat} {v : Value} (hd : decode (mB y) pc = .ok (.getfield idx, 3)) (hk : K r = 2 + 1) (j : Nat) (hj : j < 4) (hw : GoodIn lw_tbl [Cond.fieldLink (mN y).cls idx (T_Cpy j).1 (T_Cpy j).2.1 (T_Cpy j).2.2.1]) (hv : (oN I R L 2 r)[j]? = some v) (kk : WP G y B (pc + 3) lv (v :: st) (hN K N I R L E El Er) k n) : WP G y B pc lv (.ref r :: st) (hN K N I R L E El Er) k n :=
  wp_get (C := R_Cpy) (T := T_Cpy) (N := 4) hd (hN_o hk (by decide)) rfl g_Cpy j hj hw hv kk
theorem wn_put_Cpy {I' : Nat → Nat → Int32} {R' : Nat → Nat → Option Nat} {L' : Nat → Nat → Int64} {idx : Nat} {v : Value} {ty : FieldType} (hd : decode (mB y) pc = .ok (.putfield idx, 3)) (hk : K r = 2 + 1) (j : Nat) (hj : j < 4) (hw : GoodIn lw_tbl [Cond.fieldLink (mN y).cls idx (T_Cpy j).1 (T_Cpy j).2.1 (T_Cpy j).2.2.1]) (hfin : (T_Cpy j).2.2.2 = false) (hde : parseFieldDescriptor (T_Cpy j).2.2.1 = some ty) (hn : narrow ty v = v) (hfit : fits ty v = true) (hs : (oN I R L 2 r).set j v = oN I' R' L' 2 r) (h1 : ∀ q, q ≠ r → (∀ g, I' g q = I g q) ∧ (∀ g, R' g q = R g q) ∧ ∀ g, L' g q = L g q) (kk : WP G y B (pc + 3) lv st (hN K N I' R' L' E El Er) k n) : WP G y B pc lv (v :: .ref r :: st) (hN K N I R L E El Er) k n := by
  refine wp_put (C := R_Cpy) (T := T_Cpy) (N := 4) (ty := ty) hd (hN_o hk (by decide)) rfl g_Cpy t_Cpy t_Cpy_ok n_Cpy j hj hw hfin hde hn hfit (by show j < 4; exact hj) ?_
  rw [hN_put hk (by decide) hs h1]
  exact kk
theorem wn_putF_Cpy {I' : Nat → Nat → Int32} {R' : Nat → Nat → Option Nat} {L' : Nat → Nat → Int64} {idx : Nat} {v : Value} {ty : FieldType} (hd : decode (mB y) pc = .ok (.putfield idx, 3)) (hk : K r = 2 + 1) (j : Nat) (hj : j < 4) (hw : GoodIn lw_tbl [Cond.fieldLink (mN y).cls idx (T_Cpy j).1 (T_Cpy j).2.1 (T_Cpy j).2.2.1]) (hfin : (T_Cpy j).2.2.2 = true) (hinit : (mN y).name = "<init>") (hdecl : (T_Cpy j).1 = (mN y).cls) (hde : parseFieldDescriptor (T_Cpy j).2.2.1 = some ty) (hn : narrow ty v = v) (hfit : fits ty v = true) (hs : (oN I R L 2 r).set j v = oN I' R' L' 2 r) (h1 : ∀ q, q ≠ r → (∀ g, I' g q = I g q) ∧ (∀ g, R' g q = R g q) ∧ ∀ g, L' g q = L g q) (kk : WP G y B (pc + 3) lv st (hN K N I' R' L' E El Er) k n) : WP G y B pc lv (v :: .ref r :: st) (hN K N I R L E El Er) k n := by
  refine wp_putF (C := R_Cpy) (T := T_Cpy) (N := 4) (ty := ty) hd (hN_o hk (by decide)) rfl g_Cpy t_Cpy t_Cpy_ok n_Cpy j hj hw hfin hinit hdecl hde hn hfit (by show j < 4; exact hj) ?_
  rw [hN_put hk (by decide) hs h1]
  exact kk
theorem wn_get_Lst {idx : Nat} {v : Value} (hd : decode (mB y) pc = .ok (.getfield idx, 3)) (hk : K r = 3 + 1) (j : Nat) (hj : j < 3) (hw : GoodIn lw_tbl [Cond.fieldLink (mN y).cls idx (T_Lst j).1 (T_Lst j).2.1 (T_Lst j).2.2.1]) (hv : (oN I R L 3 r)[j]? = some v) (kk : WP G y B (pc + 3) lv (v :: st) (hN K N I R L E El Er) k n) : WP G y B pc lv (.ref r :: st) (hN K N I R L E El Er) k n :=
  wp_get (C := R_Lst) (T := T_Lst) (N := 3) hd (hN_o hk (by decide)) rfl g_Lst j hj hw hv kk
theorem wn_put_Lst {I' : Nat → Nat → Int32} {R' : Nat → Nat → Option Nat} {L' : Nat → Nat → Int64} {idx : Nat} {v : Value} {ty : FieldType} (hd : decode (mB y) pc = .ok (.putfield idx, 3)) (hk : K r = 3 + 1) (j : Nat) (hj : j < 3) (hw : GoodIn lw_tbl [Cond.fieldLink (mN y).cls idx (T_Lst j).1 (T_Lst j).2.1 (T_Lst j).2.2.1]) (hfin : (T_Lst j).2.2.2 = false) (hde : parseFieldDescriptor (T_Lst j).2.2.1 = some ty) (hn : narrow ty v = v) (hfit : fits ty v = true) (hs : (oN I R L 3 r).set j v = oN I' R' L' 3 r) (h1 : ∀ q, q ≠ r → (∀ g, I' g q = I g q) ∧ (∀ g, R' g q = R g q) ∧ ∀ g, L' g q = L g q) (kk : WP G y B (pc + 3) lv st (hN K N I' R' L' E El Er) k n) : WP G y B pc lv (v :: .ref r :: st) (hN K N I R L E El Er) k n := by
  refine wp_put (C := R_Lst) (T := T_Lst) (N := 3) (ty := ty) hd (hN_o hk (by decide)) rfl g_Lst t_Lst t_Lst_ok n_Lst j hj hw hfin hde hn hfit (by show j < 3; exact hj) ?_
  rw [hN_put hk (by decide) hs h1]
  exact kk
theorem wn_putF_Lst {I' : Nat → Nat → Int32} {R' : Nat → Nat → Option Nat} {L' : Nat → Nat → Int64} {idx : Nat} {v : Value} {ty : FieldType} (hd : decode (mB y) pc = .ok (.putfield idx, 3)) (hk : K r = 3 + 1) (j : Nat) (hj : j < 3) (hw : GoodIn lw_tbl [Cond.fieldLink (mN y).cls idx (T_Lst j).1 (T_Lst j).2.1 (T_Lst j).2.2.1]) (hfin : (T_Lst j).2.2.2 = true) (hinit : (mN y).name = "<init>") (hdecl : (T_Lst j).1 = (mN y).cls) (hde : parseFieldDescriptor (T_Lst j).2.2.1 = some ty) (hn : narrow ty v = v) (hfit : fits ty v = true) (hs : (oN I R L 3 r).set j v = oN I' R' L' 3 r) (h1 : ∀ q, q ≠ r → (∀ g, I' g q = I g q) ∧ (∀ g, R' g q = R g q) ∧ ∀ g, L' g q = L g q) (kk : WP G y B (pc + 3) lv st (hN K N I' R' L' E El Er) k n) : WP G y B pc lv (v :: .ref r :: st) (hN K N I R L E El Er) k n := by
  refine wp_putF (C := R_Lst) (T := T_Lst) (N := 3) (ty := ty) hd (hN_o hk (by decide)) rfl g_Lst t_Lst t_Lst_ok n_Lst j hj hw hfin hinit hdecl hde hn hfit (by show j < 3; exact hj) ?_
  rw [hN_put hk (by decide) hs h1]
  exact kk
theorem wn_get_Drf {idx : Nat} {v : Value} (hd : decode (mB y) pc = .ok (.getfield idx, 3)) (hk : K r = 4 + 1) (j : Nat) (hj : j < 7) (hw : GoodIn lw_tbl [Cond.fieldLink (mN y).cls idx (T_Drf j).1 (T_Drf j).2.1 (T_Drf j).2.2.1]) (hv : (oN I R L 4 r)[j]? = some v) (kk : WP G y B (pc + 3) lv (v :: st) (hN K N I R L E El Er) k n) : WP G y B pc lv (.ref r :: st) (hN K N I R L E El Er) k n :=
  wp_get (C := R_Drf) (T := T_Drf) (N := 7) hd (hN_o hk (by decide)) rfl g_Drf j hj hw hv kk
theorem wn_put_Drf {I' : Nat → Nat → Int32} {R' : Nat → Nat → Option Nat} {L' : Nat → Nat → Int64} {idx : Nat} {v : Value} {ty : FieldType} (hd : decode (mB y) pc = .ok (.putfield idx, 3)) (hk : K r = 4 + 1) (j : Nat) (hj : j < 7) (hw : GoodIn lw_tbl [Cond.fieldLink (mN y).cls idx (T_Drf j).1 (T_Drf j).2.1 (T_Drf j).2.2.1]) (hfin : (T_Drf j).2.2.2 = false) (hde : parseFieldDescriptor (T_Drf j).2.2.1 = some ty) (hn : narrow ty v = v) (hfit : fits ty v = true) (hs : (oN I R L 4 r).set j v = oN I' R' L' 4 r) (h1 : ∀ q, q ≠ r → (∀ g, I' g q = I g q) ∧ (∀ g, R' g q = R g q) ∧ ∀ g, L' g q = L g q) (kk : WP G y B (pc + 3) lv st (hN K N I' R' L' E El Er) k n) : WP G y B pc lv (v :: .ref r :: st) (hN K N I R L E El Er) k n := by
  refine wp_put (C := R_Drf) (T := T_Drf) (N := 7) (ty := ty) hd (hN_o hk (by decide)) rfl g_Drf t_Drf t_Drf_ok n_Drf j hj hw hfin hde hn hfit (by show j < 7; exact hj) ?_
  rw [hN_put hk (by decide) hs h1]
  exact kk
theorem wn_putF_Drf {I' : Nat → Nat → Int32} {R' : Nat → Nat → Option Nat} {L' : Nat → Nat → Int64} {idx : Nat} {v : Value} {ty : FieldType} (hd : decode (mB y) pc = .ok (.putfield idx, 3)) (hk : K r = 4 + 1) (j : Nat) (hj : j < 7) (hw : GoodIn lw_tbl [Cond.fieldLink (mN y).cls idx (T_Drf j).1 (T_Drf j).2.1 (T_Drf j).2.2.1]) (hfin : (T_Drf j).2.2.2 = true) (hinit : (mN y).name = "<init>") (hdecl : (T_Drf j).1 = (mN y).cls) (hde : parseFieldDescriptor (T_Drf j).2.2.1 = some ty) (hn : narrow ty v = v) (hfit : fits ty v = true) (hs : (oN I R L 4 r).set j v = oN I' R' L' 4 r) (h1 : ∀ q, q ≠ r → (∀ g, I' g q = I g q) ∧ (∀ g, R' g q = R g q) ∧ ∀ g, L' g q = L g q) (kk : WP G y B (pc + 3) lv st (hN K N I' R' L' E El Er) k n) : WP G y B pc lv (v :: .ref r :: st) (hN K N I R L E El Er) k n := by
  refine wp_putF (C := R_Drf) (T := T_Drf) (N := 7) (ty := ty) hd (hN_o hk (by decide)) rfl g_Drf t_Drf t_Drf_ok n_Drf j hj hw hfin hinit hdecl hde hn hfit (by show j < 7; exact hj) ?_
  rw [hN_put hk (by decide) hs h1]
  exact kk
theorem wn_get_Ent {idx : Nat} {v : Value} (hd : decode (mB y) pc = .ok (.getfield idx, 3)) (hk : K r = 5 + 1) (j : Nat) (hj : j < 4) (hw : GoodIn lw_tbl [Cond.fieldLink (mN y).cls idx (T_Ent j).1 (T_Ent j).2.1 (T_Ent j).2.2.1]) (hv : (oN I R L 5 r)[j]? = some v) (kk : WP G y B (pc + 3) lv (v :: st) (hN K N I R L E El Er) k n) : WP G y B pc lv (.ref r :: st) (hN K N I R L E El Er) k n :=
  wp_get (C := R_Ent) (T := T_Ent) (N := 4) hd (hN_o hk (by decide)) rfl g_Ent j hj hw hv kk
theorem wn_put_Ent {I' : Nat → Nat → Int32} {R' : Nat → Nat → Option Nat} {L' : Nat → Nat → Int64} {idx : Nat} {v : Value} {ty : FieldType} (hd : decode (mB y) pc = .ok (.putfield idx, 3)) (hk : K r = 5 + 1) (j : Nat) (hj : j < 4) (hw : GoodIn lw_tbl [Cond.fieldLink (mN y).cls idx (T_Ent j).1 (T_Ent j).2.1 (T_Ent j).2.2.1]) (hfin : (T_Ent j).2.2.2 = false) (hde : parseFieldDescriptor (T_Ent j).2.2.1 = some ty) (hn : narrow ty v = v) (hfit : fits ty v = true) (hs : (oN I R L 5 r).set j v = oN I' R' L' 5 r) (h1 : ∀ q, q ≠ r → (∀ g, I' g q = I g q) ∧ (∀ g, R' g q = R g q) ∧ ∀ g, L' g q = L g q) (kk : WP G y B (pc + 3) lv st (hN K N I' R' L' E El Er) k n) : WP G y B pc lv (v :: .ref r :: st) (hN K N I R L E El Er) k n := by
  refine wp_put (C := R_Ent) (T := T_Ent) (N := 4) (ty := ty) hd (hN_o hk (by decide)) rfl g_Ent t_Ent t_Ent_ok n_Ent j hj hw hfin hde hn hfit (by show j < 4; exact hj) ?_
  rw [hN_put hk (by decide) hs h1]
  exact kk
theorem wn_putF_Ent {I' : Nat → Nat → Int32} {R' : Nat → Nat → Option Nat} {L' : Nat → Nat → Int64} {idx : Nat} {v : Value} {ty : FieldType} (hd : decode (mB y) pc = .ok (.putfield idx, 3)) (hk : K r = 5 + 1) (j : Nat) (hj : j < 4) (hw : GoodIn lw_tbl [Cond.fieldLink (mN y).cls idx (T_Ent j).1 (T_Ent j).2.1 (T_Ent j).2.2.1]) (hfin : (T_Ent j).2.2.2 = true) (hinit : (mN y).name = "<init>") (hdecl : (T_Ent j).1 = (mN y).cls) (hde : parseFieldDescriptor (T_Ent j).2.2.1 = some ty) (hn : narrow ty v = v) (hfit : fits ty v = true) (hs : (oN I R L 5 r).set j v = oN I' R' L' 5 r) (h1 : ∀ q, q ≠ r → (∀ g, I' g q = I g q) ∧ (∀ g, R' g q = R g q) ∧ ∀ g, L' g q = L g q) (kk : WP G y B (pc + 3) lv st (hN K N I' R' L' E El Er) k n) : WP G y B pc lv (v :: .ref r :: st) (hN K N I R L E El Er) k n := by
  refine wp_putF (C := R_Ent) (T := T_Ent) (N := 4) (ty := ty) hd (hN_o hk (by decide)) rfl g_Ent t_Ent t_Ent_ok n_Ent j hj hw hfin hinit hdecl hde hn hfit (by show j < 4; exact hj) ?_
  rw [hN_put hk (by decide) hs h1]
  exact kk
theorem wn_get_Frm {idx : Nat} {v : Value} (hd : decode (mB y) pc = .ok (.getfield idx, 3)) (hk : K r = 6 + 1) (j : Nat) (hj : j < 3) (hw : GoodIn lw_tbl [Cond.fieldLink (mN y).cls idx (T_Frm j).1 (T_Frm j).2.1 (T_Frm j).2.2.1]) (hv : (oN I R L 6 r)[j]? = some v) (kk : WP G y B (pc + 3) lv (v :: st) (hN K N I R L E El Er) k n) : WP G y B pc lv (.ref r :: st) (hN K N I R L E El Er) k n :=
  wp_get (C := R_Frm) (T := T_Frm) (N := 3) hd (hN_o hk (by decide)) rfl g_Frm j hj hw hv kk
theorem wn_put_Frm {I' : Nat → Nat → Int32} {R' : Nat → Nat → Option Nat} {L' : Nat → Nat → Int64} {idx : Nat} {v : Value} {ty : FieldType} (hd : decode (mB y) pc = .ok (.putfield idx, 3)) (hk : K r = 6 + 1) (j : Nat) (hj : j < 3) (hw : GoodIn lw_tbl [Cond.fieldLink (mN y).cls idx (T_Frm j).1 (T_Frm j).2.1 (T_Frm j).2.2.1]) (hfin : (T_Frm j).2.2.2 = false) (hde : parseFieldDescriptor (T_Frm j).2.2.1 = some ty) (hn : narrow ty v = v) (hfit : fits ty v = true) (hs : (oN I R L 6 r).set j v = oN I' R' L' 6 r) (h1 : ∀ q, q ≠ r → (∀ g, I' g q = I g q) ∧ (∀ g, R' g q = R g q) ∧ ∀ g, L' g q = L g q) (kk : WP G y B (pc + 3) lv st (hN K N I' R' L' E El Er) k n) : WP G y B pc lv (v :: .ref r :: st) (hN K N I R L E El Er) k n := by
  refine wp_put (C := R_Frm) (T := T_Frm) (N := 3) (ty := ty) hd (hN_o hk (by decide)) rfl g_Frm t_Frm t_Frm_ok n_Frm j hj hw hfin hde hn hfit (by show j < 3; exact hj) ?_
  rw [hN_put hk (by decide) hs h1]
  exact kk
theorem wn_putF_Frm {I' : Nat → Nat → Int32} {R' : Nat → Nat → Option Nat} {L' : Nat → Nat → Int64} {idx : Nat} {v : Value} {ty : FieldType} (hd : decode (mB y) pc = .ok (.putfield idx, 3)) (hk : K r = 6 + 1) (j : Nat) (hj : j < 3) (hw : GoodIn lw_tbl [Cond.fieldLink (mN y).cls idx (T_Frm j).1 (T_Frm j).2.1 (T_Frm j).2.2.1]) (hfin : (T_Frm j).2.2.2 = true) (hinit : (mN y).name = "<init>") (hdecl : (T_Frm j).1 = (mN y).cls) (hde : parseFieldDescriptor (T_Frm j).2.2.1 = some ty) (hn : narrow ty v = v) (hfit : fits ty v = true) (hs : (oN I R L 6 r).set j v = oN I' R' L' 6 r) (h1 : ∀ q, q ≠ r → (∀ g, I' g q = I g q) ∧ (∀ g, R' g q = R g q) ∧ ∀ g, L' g q = L g q) (kk : WP G y B (pc + 3) lv st (hN K N I' R' L' E El Er) k n) : WP G y B pc lv (v :: .ref r :: st) (hN K N I R L E El Er) k n := by
  refine wp_putF (C := R_Frm) (T := T_Frm) (N := 3) (ty := ty) hd (hN_o hk (by decide)) rfl g_Frm t_Frm t_Frm_ok n_Frm j hj hw hfin hinit hdecl hde hn hfit (by show j < 3; exact hj) ?_
  rw [hN_put hk (by decide) hs h1]
  exact kk
theorem wn_get_Frs {idx : Nat} {v : Value} (hd : decode (mB y) pc = .ok (.getfield idx, 3)) (hk : K r = 7 + 1) (j : Nat) (hj : j < 3) (hw : GoodIn lw_tbl [Cond.fieldLink (mN y).cls idx (T_Frs j).1 (T_Frs j).2.1 (T_Frs j).2.2.1]) (hv : (oN I R L 7 r)[j]? = some v) (kk : WP G y B (pc + 3) lv (v :: st) (hN K N I R L E El Er) k n) : WP G y B pc lv (.ref r :: st) (hN K N I R L E El Er) k n :=
  wp_get (C := R_Frs) (T := T_Frs) (N := 3) hd (hN_o hk (by decide)) rfl g_Frs j hj hw hv kk
theorem wn_put_Frs {I' : Nat → Nat → Int32} {R' : Nat → Nat → Option Nat} {L' : Nat → Nat → Int64} {idx : Nat} {v : Value} {ty : FieldType} (hd : decode (mB y) pc = .ok (.putfield idx, 3)) (hk : K r = 7 + 1) (j : Nat) (hj : j < 3) (hw : GoodIn lw_tbl [Cond.fieldLink (mN y).cls idx (T_Frs j).1 (T_Frs j).2.1 (T_Frs j).2.2.1]) (hfin : (T_Frs j).2.2.2 = false) (hde : parseFieldDescriptor (T_Frs j).2.2.1 = some ty) (hn : narrow ty v = v) (hfit : fits ty v = true) (hs : (oN I R L 7 r).set j v = oN I' R' L' 7 r) (h1 : ∀ q, q ≠ r → (∀ g, I' g q = I g q) ∧ (∀ g, R' g q = R g q) ∧ ∀ g, L' g q = L g q) (kk : WP G y B (pc + 3) lv st (hN K N I' R' L' E El Er) k n) : WP G y B pc lv (v :: .ref r :: st) (hN K N I R L E El Er) k n := by
  refine wp_put (C := R_Frs) (T := T_Frs) (N := 3) (ty := ty) hd (hN_o hk (by decide)) rfl g_Frs t_Frs t_Frs_ok n_Frs j hj hw hfin hde hn hfit (by show j < 3; exact hj) ?_
  rw [hN_put hk (by decide) hs h1]
  exact kk
theorem wn_putF_Frs {I' : Nat → Nat → Int32} {R' : Nat → Nat → Option Nat} {L' : Nat → Nat → Int64} {idx : Nat} {v : Value} {ty : FieldType} (hd : decode (mB y) pc = .ok (.putfield idx, 3)) (hk : K r = 7 + 1) (j : Nat) (hj : j < 3) (hw : GoodIn lw_tbl [Cond.fieldLink (mN y).cls idx (T_Frs j).1 (T_Frs j).2.1 (T_Frs j).2.2.1]) (hfin : (T_Frs j).2.2.2 = true) (hinit : (mN y).name = "<init>") (hdecl : (T_Frs j).1 = (mN y).cls) (hde : parseFieldDescriptor (T_Frs j).2.2.1 = some ty) (hn : narrow ty v = v) (hfit : fits ty v = true) (hs : (oN I R L 7 r).set j v = oN I' R' L' 7 r) (h1 : ∀ q, q ≠ r → (∀ g, I' g q = I g q) ∧ (∀ g, R' g q = R g q) ∧ ∀ g, L' g q = L g q) (kk : WP G y B (pc + 3) lv st (hN K N I' R' L' E El Er) k n) : WP G y B pc lv (v :: .ref r :: st) (hN K N I R L E El Er) k n := by
  refine wp_putF (C := R_Frs) (T := T_Frs) (N := 3) (ty := ty) hd (hN_o hk (by decide)) rfl g_Frs t_Frs t_Frs_ok n_Frs j hj hw hfin hinit hdecl hde hn hfit (by show j < 3; exact hj) ?_
  rw [hN_put hk (by decide) hs h1]
  exact kk
theorem wn_get_Lin {idx : Nat} {v : Value} (hd : decode (mB y) pc = .ok (.getfield idx, 3)) (hk : K r = 8 + 1) (j : Nat) (hj : j < 5) (hw : GoodIn lw_tbl [Cond.fieldLink (mN y).cls idx (T_Lin j).1 (T_Lin j).2.1 (T_Lin j).2.2.1]) (hv : (oN I R L 8 r)[j]? = some v) (kk : WP G y B (pc + 3) lv (v :: st) (hN K N I R L E El Er) k n) : WP G y B pc lv (.ref r :: st) (hN K N I R L E El Er) k n :=
  wp_get (C := R_Lin) (T := T_Lin) (N := 5) hd (hN_o hk (by decide)) rfl g_Lin j hj hw hv kk
theorem wn_put_Lin {I' : Nat → Nat → Int32} {R' : Nat → Nat → Option Nat} {L' : Nat → Nat → Int64} {idx : Nat} {v : Value} {ty : FieldType} (hd : decode (mB y) pc = .ok (.putfield idx, 3)) (hk : K r = 8 + 1) (j : Nat) (hj : j < 5) (hw : GoodIn lw_tbl [Cond.fieldLink (mN y).cls idx (T_Lin j).1 (T_Lin j).2.1 (T_Lin j).2.2.1]) (hfin : (T_Lin j).2.2.2 = false) (hde : parseFieldDescriptor (T_Lin j).2.2.1 = some ty) (hn : narrow ty v = v) (hfit : fits ty v = true) (hs : (oN I R L 8 r).set j v = oN I' R' L' 8 r) (h1 : ∀ q, q ≠ r → (∀ g, I' g q = I g q) ∧ (∀ g, R' g q = R g q) ∧ ∀ g, L' g q = L g q) (kk : WP G y B (pc + 3) lv st (hN K N I' R' L' E El Er) k n) : WP G y B pc lv (v :: .ref r :: st) (hN K N I R L E El Er) k n := by
  refine wp_put (C := R_Lin) (T := T_Lin) (N := 5) (ty := ty) hd (hN_o hk (by decide)) rfl g_Lin t_Lin t_Lin_ok n_Lin j hj hw hfin hde hn hfit (by show j < 5; exact hj) ?_
  rw [hN_put hk (by decide) hs h1]
  exact kk
theorem wn_putF_Lin {I' : Nat → Nat → Int32} {R' : Nat → Nat → Option Nat} {L' : Nat → Nat → Int64} {idx : Nat} {v : Value} {ty : FieldType} (hd : decode (mB y) pc = .ok (.putfield idx, 3)) (hk : K r = 8 + 1) (j : Nat) (hj : j < 5) (hw : GoodIn lw_tbl [Cond.fieldLink (mN y).cls idx (T_Lin j).1 (T_Lin j).2.1 (T_Lin j).2.2.1]) (hfin : (T_Lin j).2.2.2 = true) (hinit : (mN y).name = "<init>") (hdecl : (T_Lin j).1 = (mN y).cls) (hde : parseFieldDescriptor (T_Lin j).2.2.1 = some ty) (hn : narrow ty v = v) (hfit : fits ty v = true) (hs : (oN I R L 8 r).set j v = oN I' R' L' 8 r) (h1 : ∀ q, q ≠ r → (∀ g, I' g q = I g q) ∧ (∀ g, R' g q = R g q) ∧ ∀ g, L' g q = L g q) (kk : WP G y B (pc + 3) lv st (hN K N I' R' L' E El Er) k n) : WP G y B pc lv (v :: .ref r :: st) (hN K N I R L E El Er) k n := by
  refine wp_putF (C := R_Lin) (T := T_Lin) (N := 5) (ty := ty) hd (hN_o hk (by decide)) rfl g_Lin t_Lin t_Lin_ok n_Lin j hj hw hfin hinit hdecl hde hn hfit (by show j < 5; exact hj) ?_
  rw [hN_put hk (by decide) hs h1]
  exact kk
theorem wn_get_Msg {idx : Nat} {v : Value} (hd : decode (mB y) pc = .ok (.getfield idx, 3)) (hk : K r = 9 + 1) (j : Nat) (hj : j < 5) (hw : GoodIn lw_tbl [Cond.fieldLink (mN y).cls idx (T_Msg j).1 (T_Msg j).2.1 (T_Msg j).2.2.1]) (hv : (oN I R L 9 r)[j]? = some v) (kk : WP G y B (pc + 3) lv (v :: st) (hN K N I R L E El Er) k n) : WP G y B pc lv (.ref r :: st) (hN K N I R L E El Er) k n :=
  wp_get (C := R_Msg) (T := T_Msg) (N := 5) hd (hN_o hk (by decide)) rfl g_Msg j hj hw hv kk
theorem wn_put_Msg {I' : Nat → Nat → Int32} {R' : Nat → Nat → Option Nat} {L' : Nat → Nat → Int64} {idx : Nat} {v : Value} {ty : FieldType} (hd : decode (mB y) pc = .ok (.putfield idx, 3)) (hk : K r = 9 + 1) (j : Nat) (hj : j < 5) (hw : GoodIn lw_tbl [Cond.fieldLink (mN y).cls idx (T_Msg j).1 (T_Msg j).2.1 (T_Msg j).2.2.1]) (hfin : (T_Msg j).2.2.2 = false) (hde : parseFieldDescriptor (T_Msg j).2.2.1 = some ty) (hn : narrow ty v = v) (hfit : fits ty v = true) (hs : (oN I R L 9 r).set j v = oN I' R' L' 9 r) (h1 : ∀ q, q ≠ r → (∀ g, I' g q = I g q) ∧ (∀ g, R' g q = R g q) ∧ ∀ g, L' g q = L g q) (kk : WP G y B (pc + 3) lv st (hN K N I' R' L' E El Er) k n) : WP G y B pc lv (v :: .ref r :: st) (hN K N I R L E El Er) k n := by
  refine wp_put (C := R_Msg) (T := T_Msg) (N := 5) (ty := ty) hd (hN_o hk (by decide)) rfl g_Msg t_Msg t_Msg_ok n_Msg j hj hw hfin hde hn hfit (by show j < 5; exact hj) ?_
  rw [hN_put hk (by decide) hs h1]
  exact kk
theorem wn_putF_Msg {I' : Nat → Nat → Int32} {R' : Nat → Nat → Option Nat} {L' : Nat → Nat → Int64} {idx : Nat} {v : Value} {ty : FieldType} (hd : decode (mB y) pc = .ok (.putfield idx, 3)) (hk : K r = 9 + 1) (j : Nat) (hj : j < 5) (hw : GoodIn lw_tbl [Cond.fieldLink (mN y).cls idx (T_Msg j).1 (T_Msg j).2.1 (T_Msg j).2.2.1]) (hfin : (T_Msg j).2.2.2 = true) (hinit : (mN y).name = "<init>") (hdecl : (T_Msg j).1 = (mN y).cls) (hde : parseFieldDescriptor (T_Msg j).2.2.1 = some ty) (hn : narrow ty v = v) (hfit : fits ty v = true) (hs : (oN I R L 9 r).set j v = oN I' R' L' 9 r) (h1 : ∀ q, q ≠ r → (∀ g, I' g q = I g q) ∧ (∀ g, R' g q = R g q) ∧ ∀ g, L' g q = L g q) (kk : WP G y B (pc + 3) lv st (hN K N I' R' L' E El Er) k n) : WP G y B pc lv (v :: .ref r :: st) (hN K N I R L E El Er) k n := by
  refine wp_putF (C := R_Msg) (T := T_Msg) (N := 5) (ty := ty) hd (hN_o hk (by decide)) rfl g_Msg t_Msg t_Msg_ok n_Msg j hj hw hfin hinit hdecl hde hn hfit (by show j < 5; exact hj) ?_
  rw [hN_put hk (by decide) hs h1]
  exact kk
theorem wn_get_Swt {idx : Nat} {v : Value} (hd : decode (mB y) pc = .ok (.getfield idx, 3)) (hk : K r = 10 + 1) (j : Nat) (hj : j < 8) (hw : GoodIn lw_tbl [Cond.fieldLink (mN y).cls idx (T_Swt j).1 (T_Swt j).2.1 (T_Swt j).2.2.1]) (hv : (oN I R L 10 r)[j]? = some v) (kk : WP G y B (pc + 3) lv (v :: st) (hN K N I R L E El Er) k n) : WP G y B pc lv (.ref r :: st) (hN K N I R L E El Er) k n :=
  wp_get (C := R_Swt) (T := T_Swt) (N := 8) hd (hN_o hk (by decide)) rfl g_Swt j hj hw hv kk
theorem wn_put_Swt {I' : Nat → Nat → Int32} {R' : Nat → Nat → Option Nat} {L' : Nat → Nat → Int64} {idx : Nat} {v : Value} {ty : FieldType} (hd : decode (mB y) pc = .ok (.putfield idx, 3)) (hk : K r = 10 + 1) (j : Nat) (hj : j < 8) (hw : GoodIn lw_tbl [Cond.fieldLink (mN y).cls idx (T_Swt j).1 (T_Swt j).2.1 (T_Swt j).2.2.1]) (hfin : (T_Swt j).2.2.2 = false) (hde : parseFieldDescriptor (T_Swt j).2.2.1 = some ty) (hn : narrow ty v = v) (hfit : fits ty v = true) (hs : (oN I R L 10 r).set j v = oN I' R' L' 10 r) (h1 : ∀ q, q ≠ r → (∀ g, I' g q = I g q) ∧ (∀ g, R' g q = R g q) ∧ ∀ g, L' g q = L g q) (kk : WP G y B (pc + 3) lv st (hN K N I' R' L' E El Er) k n) : WP G y B pc lv (v :: .ref r :: st) (hN K N I R L E El Er) k n := by
  refine wp_put (C := R_Swt) (T := T_Swt) (N := 8) (ty := ty) hd (hN_o hk (by decide)) rfl g_Swt t_Swt t_Swt_ok n_Swt j hj hw hfin hde hn hfit (by show j < 8; exact hj) ?_
  rw [hN_put hk (by decide) hs h1]
  exact kk
theorem wn_putF_Swt {I' : Nat → Nat → Int32} {R' : Nat → Nat → Option Nat} {L' : Nat → Nat → Int64} {idx : Nat} {v : Value} {ty : FieldType} (hd : decode (mB y) pc = .ok (.putfield idx, 3)) (hk : K r = 10 + 1) (j : Nat) (hj : j < 8) (hw : GoodIn lw_tbl [Cond.fieldLink (mN y).cls idx (T_Swt j).1 (T_Swt j).2.1 (T_Swt j).2.2.1]) (hfin : (T_Swt j).2.2.2 = true) (hinit : (mN y).name = "<init>") (hdecl : (T_Swt j).1 = (mN y).cls) (hde : parseFieldDescriptor (T_Swt j).2.2.1 = some ty) (hn : narrow ty v = v) (hfit : fits ty v = true) (hs : (oN I R L 10 r).set j v = oN I' R' L' 10 r) (h1 : ∀ q, q ≠ r → (∀ g, I' g q = I g q) ∧ (∀ g, R' g q = R g q) ∧ ∀ g, L' g q = L g q) (kk : WP G y B (pc + 3) lv st (hN K N I' R' L' E El Er) k n) : WP G y B pc lv (v :: .ref r :: st) (hN K N I R L E El Er) k n := by
  refine wp_putF (C := R_Swt) (T := T_Swt) (N := 8) (ty := ty) hd (hN_o hk (by decide)) rfl g_Swt t_Swt t_Swt_ok n_Swt j hj hw hfin hinit hdecl hde hn hfit (by show j < 8; exact hj) ?_
  rw [hN_put hk (by decide) hs h1]
  exact kk
theorem sF_0 {x : Option Nat} : (oN I R L 0 r).set 0 (va_rf x) = oN I (u2r R 0 r x) L 0 r := by simp [oN, u2r, va_up]
theorem sF_1 {x : Option Nat} : (oN I R L 0 r).set 1 (va_rf x) = oN I (u2r R 1 r x) L 0 r := by simp [oN, u2r, va_up]
theorem sF_2 {x : Option Nat} : (oN I R L 0 r).set 2 (va_rf x) = oN I (u2r R 2 r x) L 0 r := by simp [oN, u2r, va_up]
theorem sF_3 {x : Option Nat} : (oN I R L 0 r).set 3 (va_rf x) = oN I (u2r R 3 r x) L 0 r := by simp [oN, u2r, va_up]
theorem sF_4 {x : Option Nat} : (oN I R L 0 r).set 4 (va_rf x) = oN I (u2r R 4 r x) L 0 r := by simp [oN, u2r, va_up]
theorem sF_5 {x : Int32} : (oN I R L 0 r).set 5 (.int x) = oN (u2 I 5 r x) R L 0 r := by simp [oN, u2, va_up, upd]
theorem sF_6 {x : Int32} : (oN I R L 0 r).set 6 (.int x) = oN (u2 I 6 r x) R L 0 r := by simp [oN, u2, va_up, upd]
theorem sF_7 {x : Option Nat} : (oN I R L 1 r).set 0 (va_rf x) = oN I (u2r R 7 r x) L 1 r := by simp [oN, u2r, va_up]
theorem sF_8 {x : Option Nat} : (oN I R L 1 r).set 1 (va_rf x) = oN I (u2r R 8 r x) L 1 r := by simp [oN, u2r, va_up]
theorem sF_9 {x : Option Nat} : (oN I R L 1 r).set 2 (va_rf x) = oN I (u2r R 9 r x) L 1 r := by simp [oN, u2r, va_up]
theorem sF_10 {x : Int32} : (oN I R L 1 r).set 3 (.int x) = oN (u2 I 10 r x) R L 1 r := by simp [oN, u2, va_up, upd]
theorem sF_11 {x : Int32} : (oN I R L 1 r).set 4 (.int x) = oN (u2 I 11 r x) R L 1 r := by simp [oN, u2, va_up, upd]
theorem sF_12 {x : Int32} : (oN I R L 1 r).set 5 (.int x) = oN (u2 I 12 r x) R L 1 r := by simp [oN, u2, va_up, upd]
theorem sF_13 {x : Int32} : (oN I R L 1 r).set 6 (.int x) = oN (u2 I 13 r x) R L 1 r := by simp [oN, u2, va_up, upd]
theorem sF_14 {x : Option Nat} : (oN I R L 2 r).set 0 (va_rf x) = oN I (u2r R 14 r x) L 2 r := by simp [oN, u2r, va_up]
theorem sF_15 {x : Int32} : (oN I R L 2 r).set 1 (.int x) = oN (u2 I 15 r x) R L 2 r := by simp [oN, u2, va_up, upd]
theorem sF_16 {x : Int32} : (oN I R L 2 r).set 2 (.int x) = oN (u2 I 16 r x) R L 2 r := by simp [oN, u2, va_up, upd]
theorem sF_17 {x : Option Nat} : (oN I R L 2 r).set 3 (va_rf x) = oN I (u2r R 17 r x) L 2 r := by simp [oN, u2r, va_up]
theorem sF_18 {x : Option Nat} : (oN I R L 3 r).set 0 (va_rf x) = oN I (u2r R 18 r x) L 3 r := by simp [oN, u2r, va_up]
theorem sF_19 {x : Option Nat} : (oN I R L 3 r).set 1 (va_rf x) = oN I (u2r R 19 r x) L 3 r := by simp [oN, u2r, va_up]
theorem sF_20 {x : Int32} : (oN I R L 3 r).set 2 (.int x) = oN (u2 I 20 r x) R L 3 r := by simp [oN, u2, va_up, upd]
theorem sF_21 {x : Option Nat} : (oN I R L 4 r).set 0 (va_rf x) = oN I (u2r R 21 r x) L 4 r := by simp [oN, u2r, va_up]
theorem sF_22 {x : Option Nat} : (oN I R L 4 r).set 1 (va_rf x) = oN I (u2r R 22 r x) L 4 r := by simp [oN, u2r, va_up]
theorem sF_23 {x : Int32} : (oN I R L 4 r).set 2 (.int x) = oN (u2 I 23 r x) R L 4 r := by simp [oN, u2, va_up, upd]
theorem sF_24 {x : Int32} : (oN I R L 4 r).set 3 (.int x) = oN (u2 I 24 r x) R L 4 r := by simp [oN, u2, va_up, upd]
theorem sF_25 {x : Int32} : (oN I R L 4 r).set 4 (.int x) = oN (u2 I 25 r x) R L 4 r := by simp [oN, u2, va_up, upd]
theorem sF_26 {x : Int32} : (oN I R L 4 r).set 5 (.int x) = oN (u2 I 26 r x) R L 4 r := by simp [oN, u2, va_up, upd]
theorem sF_27 {x : Int32} : (oN I R L 4 r).set 6 (.int x) = oN (u2 I 27 r x) R L 4 r := by simp [oN, u2, va_up, upd]
theorem sF_28 {x : Int64} : (oN I R L 5 r).set 0 (.long x) = oN I R (u2l L 28 r x) 5 r := by simp [oN, u2l, va_up, vp_updL]
theorem sF_29 {x : Int32} : (oN I R L 5 r).set 1 (.int x) = oN (u2 I 29 r x) R L 5 r := by simp [oN, u2, va_up, upd]
theorem sF_30 {x : Int32} : (oN I R L 5 r).set 2 (.int x) = oN (u2 I 30 r x) R L 5 r := by simp [oN, u2, va_up, upd]
theorem sF_31 {x : Int32} : (oN I R L 5 r).set 3 (.int x) = oN (u2 I 31 r x) R L 5 r := by simp [oN, u2, va_up, upd]
theorem sF_32 {x : Int32} : (oN I R L 6 r).set 0 (.int x) = oN (u2 I 32 r x) R L 6 r := by simp [oN, u2, va_up, upd]
theorem sF_33 {x : Option Nat} : (oN I R L 6 r).set 1 (va_rf x) = oN I (u2r R 33 r x) L 6 r := by simp [oN, u2r, va_up]
theorem sF_34 {x : Int32} : (oN I R L 6 r).set 2 (.int x) = oN (u2 I 34 r x) R L 6 r := by simp [oN, u2, va_up, upd]
theorem sF_35 {x : Option Nat} : (oN I R L 7 r).set 0 (va_rf x) = oN I (u2r R 35 r x) L 7 r := by simp [oN, u2r, va_up]
theorem sF_36 {x : Int32} : (oN I R L 7 r).set 1 (.int x) = oN (u2 I 36 r x) R L 7 r := by simp [oN, u2, va_up, upd]
theorem sF_37 {x : Int32} : (oN I R L 7 r).set 2 (.int x) = oN (u2 I 37 r x) R L 7 r := by simp [oN, u2, va_up, upd]
theorem sF_38 {x : Int32} : (oN I R L 8 r).set 0 (.int x) = oN (u2 I 38 r x) R L 8 r := by simp [oN, u2, va_up, upd]
theorem sF_39 {x : Int32} : (oN I R L 8 r).set 1 (.int x) = oN (u2 I 39 r x) R L 8 r := by simp [oN, u2, va_up, upd]
theorem sF_40 {x : Option Nat} : (oN I R L 8 r).set 2 (va_rf x) = oN I (u2r R 40 r x) L 8 r := by simp [oN, u2r, va_up]
theorem sF_41 {x : Option Nat} : (oN I R L 8 r).set 3 (va_rf x) = oN I (u2r R 41 r x) L 8 r := by simp [oN, u2r, va_up]
theorem sF_42 {x : Int32} : (oN I R L 8 r).set 4 (.int x) = oN (u2 I 42 r x) R L 8 r := by simp [oN, u2, va_up, upd]
theorem sF_43 {x : Option Nat} : (oN I R L 9 r).set 0 (va_rf x) = oN I (u2r R 43 r x) L 9 r := by simp [oN, u2r, va_up]
theorem sF_44 {x : Option Nat} : (oN I R L 9 r).set 1 (va_rf x) = oN I (u2r R 44 r x) L 9 r := by simp [oN, u2r, va_up]
theorem sF_45 {x : Int32} : (oN I R L 9 r).set 2 (.int x) = oN (u2 I 45 r x) R L 9 r := by simp [oN, u2, va_up, upd]
theorem sF_46 {x : Int32} : (oN I R L 9 r).set 3 (.int x) = oN (u2 I 46 r x) R L 9 r := by simp [oN, u2, va_up, upd]
theorem sF_47 {x : Int32} : (oN I R L 9 r).set 4 (.int x) = oN (u2 I 47 r x) R L 9 r := by simp [oN, u2, va_up, upd]
theorem sF_48 {x : Option Nat} : (oN I R L 10 r).set 0 (va_rf x) = oN I (u2r R 48 r x) L 10 r := by simp [oN, u2r, va_up]
theorem sF_49 {x : Option Nat} : (oN I R L 10 r).set 1 (va_rf x) = oN I (u2r R 49 r x) L 10 r := by simp [oN, u2r, va_up]
theorem sF_50 {x : Option Nat} : (oN I R L 10 r).set 2 (va_rf x) = oN I (u2r R 50 r x) L 10 r := by simp [oN, u2r, va_up]
theorem sF_51 {x : Int32} : (oN I R L 10 r).set 3 (.int x) = oN (u2 I 51 r x) R L 10 r := by simp [oN, u2, va_up, upd]
theorem sF_52 {x : Int32} : (oN I R L 10 r).set 4 (.int x) = oN (u2 I 52 r x) R L 10 r := by simp [oN, u2, va_up, upd]
theorem sF_53 {x : Int32} : (oN I R L 10 r).set 5 (.int x) = oN (u2 I 53 r x) R L 10 r := by simp [oN, u2, va_up, upd]
theorem sF_54 {x : Int32} : (oN I R L 10 r).set 6 (.int x) = oN (u2 I 54 r x) R L 10 r := by simp [oN, u2, va_up, upd]
theorem sF_55 {x : Int32} : (oN I R L 10 r).set 7 (.int x) = oN (u2 I 55 r x) R L 10 r := by simp [oN, u2, va_up, upd]
theorem oI (I : Nat → Nat → Int32) (R : Nat → Nat → Option Nat) (L : Nat → Nat → Int64) (g : Nat) (x : Int32) : ∀ q, q ≠ r → (∀ j, u2 I g r x j q = I j q) ∧ (∀ j, R j q = R j q) ∧ ∀ j, L j q = L j q := fun q hq => ⟨fun _ => u2_q _ _ hq, fun _ => rfl, fun _ => rfl⟩
theorem oR (I : Nat → Nat → Int32) (R : Nat → Nat → Option Nat) (L : Nat → Nat → Int64) (g : Nat) (x : Option Nat) : ∀ q, q ≠ r → (∀ j, I j q = I j q) ∧ (∀ j, u2r R g r x j q = R j q) ∧ ∀ j, L j q = L j q := fun q hq => ⟨fun _ => rfl, fun _ => u2r_q _ _ hq, fun _ => rfl⟩
theorem oL (I : Nat → Nat → Int32) (R : Nat → Nat → Option Nat) (L : Nat → Nat → Int64) (g : Nat) (x : Int64) : ∀ q, q ≠ r → (∀ j, I j q = I j q) ∧ (∀ j, R j q = R j q) ∧ ∀ j, u2l L g r x j q = L j q := fun q hq => ⟨fun _ => rfl, fun _ => rfl, fun _ => u2l_q _ _ hq⟩
theorem wn_ild {i : Nat} {x : Int32} (hd : decode (mB y) pc = .ok (.iaload, 1)) (hk : K r = 20 + 0) (hi : i < N r) (hl : N r < 2 ^ 31) (hx : E r i = x) (kk : WP G y B (pc + 1) lv (.int x :: st) (hN K N I R L E El Er) k n) : WP G y B pc lv (.int (nI i) :: .ref r :: st) (hN K N I R L E El Er) k n := by
  refine wp_iald hd (hN_a hk) rfl (vp_in_nI hi hl) ?_
  rw [nI_clamp (by omega), hx]
  exact kk
theorem wn_bld {i : Nat} {x : Int32} (hd : decode (mB y) pc = .ok (.baload, 1)) (hk : K r = 20 + 2) (hi : i < N r) (hl : N r < 2 ^ 31) (hx : E r i = x) (kk : WP G y B (pc + 1) lv (.int x :: st) (hN K N I R L E El Er) k n) : WP G y B pc lv (.int (nI i) :: .ref r :: st) (hN K N I R L E El Er) k n := by
  refine wp_bald hd (hN_a hk) rfl (vp_in_nI hi hl) ?_
  rw [nI_clamp (by omega), hx]
  exact kk
theorem wn_lld {i : Nat} {x : Int64} (hd : decode (mB y) pc = .ok (.laload, 1)) (hk : K r = 20 + 1) (hi : i < N r) (hl : N r < 2 ^ 31) (hx : El r i = x) (kk : WP G y B (pc + 1) lv (.long x :: st) (hN K N I R L E El Er) k n) : WP G y B pc lv (.int (nI i) :: .ref r :: st) (hN K N I R L E El Er) k n := by
  refine wp_lald hd (hN_a hk) rfl (vp_in_nI hi hl) ?_
  rw [nI_clamp (by omega), hx]
  exact kk
theorem wn_ald {t i : Nat} {C : String} {x : Option Nat} (hd : decode (mB y) pc = .ok (.aaload, 1)) (hk : K r = 20 + t) (ht : aTy[t]? = some (.object C)) (ht4 : 4 ≤ t) (hi : i < N r) (hl : N r < 2 ^ 31) (hx : Er r i = x) (kk : WP G y B (pc + 1) lv (va_rf x :: st) (hN K N I R L E El Er) k n) : WP G y B pc lv (.int (nI i) :: .ref r :: st) (hN K N I R L E El Er) k n := by
  have ha : hN K N I R L E El Er r = some (.inl (t, N r, .inr (.inr (.inr (.inr (Er r)))))) := by rw [hN_a hk]; unfold arN; rw [if_neg (by omega), if_pos ht4]
  refine wp_aldq hd ha ht (vp_in_nI hi hl) ?_
  rw [nI_clamp (by omega), hx]
  exact kk
theorem wn_ist {i : Nat} {x : Int32} (hd : decode (mB y) pc = .ok (.iastore, 1)) (hk : K r = 20 + 0) (hi : i < N r) (hl : N r < 2 ^ 31) (kk : WP G y B (pc + 1) lv st (hN K N I R L (u2 E r i x) El Er) k n) : WP G y B pc lv (.int x :: .int (nI i) :: .ref r :: st) (hN K N I R L E El Er) k n := by
  refine wp_iast hd (hN_a hk) rfl (vp_in_nI hi hl) ?_
  rw [nI_clamp (by omega), hN_st (E' := u2 E r i x) (El' := El) (Er' := Er) hk (by simp [arN, u2, va_up]) (fun q hq => ⟨u2_ne _ _ hq, rfl, rfl⟩)]
  exact kk
theorem wn_bst {i : Nat} {x z : Int32} (hd : decode (mB y) pc = .ok (.bastore, 1)) (hk : K r = 20 + 2) (hi : i < N r) (hl : N r < 2 ^ 31) (hz : vp_nar .byte x = z) (kk : WP G y B (pc + 1) lv st (hN K N I R L (u2 E r i z) El Er) k n) : WP G y B pc lv (.int x :: .int (nI i) :: .ref r :: st) (hN K N I R L E El Er) k n := by
  refine wp_bast hd (hN_a hk) rfl (vp_in_nI hi hl) ?_
  rw [nI_clamp (by omega), hz, hN_st (E' := u2 E r i z) (El' := El) (Er' := Er) hk (by simp [arN, u2, va_up]) (fun q hq => ⟨u2_ne _ _ hq, rfl, rfl⟩)]
  exact kk
theorem wn_lst {i : Nat} {x : Int64} (hd : decode (mB y) pc = .ok (.lastore, 1)) (hk : K r = 20 + 1) (hi : i < N r) (hl : N r < 2 ^ 31) (kk : WP G y B (pc + 1) lv st (hN K N I R L E (u2l El r i x) Er) k n) : WP G y B pc lv (.long x :: .int (nI i) :: .ref r :: st) (hN K N I R L E El Er) k n := by
  refine wp_last hd (hN_a hk) rfl (vp_in_nI hi hl) ?_
  rw [nI_clamp (by omega), hN_st (E' := E) (El' := u2l El r i x) (Er' := Er) hk (by simp [arN, u2l, va_up]) (fun q hq => ⟨rfl, u2l_ne _ _ hq, rfl⟩)]
  exact kk
theorem wn_ast {t i v ci : Nat} {w : vw_C} (hd : decode (mB y) pc = .ok (.aastore, 1)) (hk : K r = 20 + t) (ht : aTy[t]? = some (.object w.1)) (ht4 : 4 ≤ t) (hv : K v = ci + 1) (hci : ci < 11) (hc : vwCl[ci]? = some w) (hi : i < N r) (hl : N r < 2 ^ 31) (kk : WP G y B (pc + 1) lv st (hN K N I R L E El (u2r Er r i (some v))) k n) : WP G y B pc lv (.ref v :: .int (nI i) :: .ref r :: st) (hN K N I R L E El Er) k n := by
  have ha : hN K N I R L E El Er r = some (.inl (t, N r, .inr (.inr (.inr (.inr (Er r)))))) := by rw [hN_a hk]; unfold arN; rw [if_neg (by omega), if_pos ht4]
  refine wp_astq hd ha ht (hN_o hv hci) hc (vp_in_nI hi hl) ?_
  rw [nI_clamp (by omega), hN_st (E' := E) (El' := El) (Er' := u2r Er r i (some v)) hk (by unfold arN; rw [if_neg (by omega), if_pos ht4]; simp [u2r, va_up]) (fun q hq => ⟨rfl, rfl, u2r_ne _ _ hq⟩)]
  exact kk
theorem wn_len {t len : Nat} {ty : FieldType} (hd : decode (mB y) pc = .ok (.arraylength, 1)) (hk : K r = 20 + t) (ht : aTy[t]? = some ty) (hn : N r = len) (kk : WP G y B (pc + 1) lv (.int (nI len) :: st) (hN K N I R L E El Er) k n) : WP G y B pc lv (.ref r :: st) (hN K N I R L E El Er) k n :=
  wp_alen (N := 0) hd (hN_a hk) ht (by subst hn; rfl) kk
theorem hN_new {q v : Nat} {fs : List Value} {ci : Nat} (hD : DF K I R L E El Er) (hq : K q = 0) (hc : ci < 11) (hf : fs = oN (fun _ _ => 0) (fun _ _ => none) (fun _ _ => 0) ci q) : hup (hN K N I R L E El Er) q (.inr (ci, fs)) = hN (va_up K q (ci + 1)) N I R L E El Er := by
  funext p
  by_cases hp : p = q
  · subst hp
    rw [hup_eq, hN_o (kat K p (ci + 1)) hc, hf, oN_congr (I := fun _ _ => 0) (R := fun _ _ => none) (L := fun _ _ => 0) (hD p hq).1 (hD p hq).2.1 (hD p hq).2.2.1]
  · rw [hup_ne hp]
    unfold hN
    rw [show va_up K q (ci + 1) p = K p by simp [va_up, hp]]
theorem hN_newA {q t len : Nat} {x : vp_A} (hD : DF K I R L E El Er) (hq : K q = 0) (hx : x = (len, arN (fun _ _ => 0) (fun _ _ => 0) (fun _ _ => none) t q)) : hup (hN K N I R L E El Er) q (.inl (t, x)) = hN (va_up K q (20 + t)) (va_up N q len) I R L E El Er := by
  funext p
  by_cases hp : p = q
  · subst hp
    rw [hup_eq, hN_a (t := t) (kat K p (20 + t)), kat N p len, hx]
    have h1 : E p = fun _ => 0 := funext (hD p hq).2.2.2.1
    have h2 : El p = fun _ => 0 := funext (hD p hq).2.2.2.2.1
    have h3 : Er p = fun _ => none := funext (hD p hq).2.2.2.2.2
    unfold arN
    rw [h1, h2, h3]
  · rw [hup_ne hp]
    unfold hN
    rw [show va_up K q (20 + t) p = K p by simp [va_up, hp], show va_up N q len p = N p by simp [va_up, hp]]
theorem wn_newq {C : String} {idx t len : Nat} (hd : decode (mB y) pc = .ok (.anewarray idx, 3)) (ht : aTy[t]? = some (.object C)) (ht4 : 4 ≤ t) (hw : GoodIn lw_tbl [Cond.classLink (mN y).cls idx C]) (hov : Cond.arrayOver (.object C) ∈ lw_tbl) (hl : len ≤ 1000) (hD : DF K I R L E El Er) (kk : ∀ q : Nat, K q = 0 → WP G y B (pc + 3) lv (.ref q :: st) (hN (va_up K q (20 + t)) (va_up N q len) I R L E El Er) k n) : WP G y B pc lv (.int (nI len) :: st) (hN K N I R L E El Er) (k + 1) (n + len) := by
  intro p e R' s m args below meth c hF
  obtain ⟨hx, hb, -, -, hown, -, -, -, hamb, -, -, hRk, hRn, hG⟩ := id hF
  refine wp_newq hd ht hw (va_AO.of (hG.1 _ hov)) (nI_pos (by omega)) (nI_clamp (by omega)) (by omega) (fun q hq => ?_) p e R' s m args below meth c hF
  have hq0 := hN_0.mp hq
  rw [hN_newA (len := len) hD hq0 (by unfold arN; rw [if_neg (by omega), if_pos ht4])]
  exact kk q hq0
theorem wn_new_Net {idx : Nat} (hd : decode (mB y) pc = .ok (.new idx, 3)) (hw : GoodIn lw_tbl [Cond.classLink (mN y).cls idx R_Net, .instantiable R_Net 7, .initialized R_Net]) (hD : DF K I R L E El Er) (kk : ∀ q : Nat, K q = 0 → WP G y B (pc + 3) lv (.ref q :: st) (hN (va_up K q (0 + 1)) N I R L E El Er) k n) : WP G y B pc lv st (hN K N I R L E El Er) (k + 1) (n + 7) := by
  refine wp_new (C := R_Net) (T := T_Net) (N := 7) (ci := 0) (fs := oN (fun _ _ => 0) (fun _ _ => none) (fun _ _ => 0) 0 0) hd rfl g_Net t_Net t_Net_ok hw (by decide +kernel) (fun q hq => ?_)
  have hq0 := hN_0.mp hq
  rw [hN_new (ci := 0) (fs := oN (fun _ _ => 0) (fun _ _ => none) (fun _ _ => 0) 0 0) (v := 0) hD hq0 (by decide) rfl]
  exact kk q hq0
theorem wn_new_Chn {idx : Nat} (hd : decode (mB y) pc = .ok (.new idx, 3)) (hw : GoodIn lw_tbl [Cond.classLink (mN y).cls idx R_Chn, .instantiable R_Chn 7, .initialized R_Chn]) (hD : DF K I R L E El Er) (kk : ∀ q : Nat, K q = 0 → WP G y B (pc + 3) lv (.ref q :: st) (hN (va_up K q (1 + 1)) N I R L E El Er) k n) : WP G y B pc lv st (hN K N I R L E El Er) (k + 1) (n + 7) := by
  refine wp_new (C := R_Chn) (T := T_Chn) (N := 7) (ci := 1) (fs := oN (fun _ _ => 0) (fun _ _ => none) (fun _ _ => 0) 1 0) hd rfl g_Chn t_Chn t_Chn_ok hw (by decide +kernel) (fun q hq => ?_)
  have hq0 := hN_0.mp hq
  rw [hN_new (ci := 1) (fs := oN (fun _ _ => 0) (fun _ _ => none) (fun _ _ => 0) 1 0) (v := 0) hD hq0 (by decide) rfl]
  exact kk q hq0
theorem wn_new_Cpy {idx : Nat} (hd : decode (mB y) pc = .ok (.new idx, 3)) (hw : GoodIn lw_tbl [Cond.classLink (mN y).cls idx R_Cpy, .instantiable R_Cpy 4, .initialized R_Cpy]) (hD : DF K I R L E El Er) (kk : ∀ q : Nat, K q = 0 → WP G y B (pc + 3) lv (.ref q :: st) (hN (va_up K q (2 + 1)) N I R L E El Er) k n) : WP G y B pc lv st (hN K N I R L E El Er) (k + 1) (n + 4) := by
  refine wp_new (C := R_Cpy) (T := T_Cpy) (N := 4) (ci := 2) (fs := oN (fun _ _ => 0) (fun _ _ => none) (fun _ _ => 0) 2 0) hd rfl g_Cpy t_Cpy t_Cpy_ok hw (by decide +kernel) (fun q hq => ?_)
  have hq0 := hN_0.mp hq
  rw [hN_new (ci := 2) (fs := oN (fun _ _ => 0) (fun _ _ => none) (fun _ _ => 0) 2 0) (v := 0) hD hq0 (by decide) rfl]
  exact kk q hq0
theorem wn_new_Lst {idx : Nat} (hd : decode (mB y) pc = .ok (.new idx, 3)) (hw : GoodIn lw_tbl [Cond.classLink (mN y).cls idx R_Lst, .instantiable R_Lst 3, .initialized R_Lst]) (hD : DF K I R L E El Er) (kk : ∀ q : Nat, K q = 0 → WP G y B (pc + 3) lv (.ref q :: st) (hN (va_up K q (3 + 1)) N I R L E El Er) k n) : WP G y B pc lv st (hN K N I R L E El Er) (k + 1) (n + 3) := by
  refine wp_new (C := R_Lst) (T := T_Lst) (N := 3) (ci := 3) (fs := oN (fun _ _ => 0) (fun _ _ => none) (fun _ _ => 0) 3 0) hd rfl g_Lst t_Lst t_Lst_ok hw (by decide +kernel) (fun q hq => ?_)
  have hq0 := hN_0.mp hq
  rw [hN_new (ci := 3) (fs := oN (fun _ _ => 0) (fun _ _ => none) (fun _ _ => 0) 3 0) (v := 0) hD hq0 (by decide) rfl]
  exact kk q hq0
theorem wn_new_Drf {idx : Nat} (hd : decode (mB y) pc = .ok (.new idx, 3)) (hw : GoodIn lw_tbl [Cond.classLink (mN y).cls idx R_Drf, .instantiable R_Drf 7, .initialized R_Drf]) (hD : DF K I R L E El Er) (kk : ∀ q : Nat, K q = 0 → WP G y B (pc + 3) lv (.ref q :: st) (hN (va_up K q (4 + 1)) N I R L E El Er) k n) : WP G y B pc lv st (hN K N I R L E El Er) (k + 1) (n + 7) := by
  refine wp_new (C := R_Drf) (T := T_Drf) (N := 7) (ci := 4) (fs := oN (fun _ _ => 0) (fun _ _ => none) (fun _ _ => 0) 4 0) hd rfl g_Drf t_Drf t_Drf_ok hw (by decide +kernel) (fun q hq => ?_)
  have hq0 := hN_0.mp hq
  rw [hN_new (ci := 4) (fs := oN (fun _ _ => 0) (fun _ _ => none) (fun _ _ => 0) 4 0) (v := 0) hD hq0 (by decide) rfl]
  exact kk q hq0
theorem wn_new_Ent {idx : Nat} (hd : decode (mB y) pc = .ok (.new idx, 3)) (hw : GoodIn lw_tbl [Cond.classLink (mN y).cls idx R_Ent, .instantiable R_Ent 4, .initialized R_Ent]) (hD : DF K I R L E El Er) (kk : ∀ q : Nat, K q = 0 → WP G y B (pc + 3) lv (.ref q :: st) (hN (va_up K q (5 + 1)) N I R L E El Er) k n) : WP G y B pc lv st (hN K N I R L E El Er) (k + 1) (n + 4) := by
  refine wp_new (C := R_Ent) (T := T_Ent) (N := 4) (ci := 5) (fs := oN (fun _ _ => 0) (fun _ _ => none) (fun _ _ => 0) 5 0) hd rfl g_Ent t_Ent t_Ent_ok hw (by decide +kernel) (fun q hq => ?_)
  have hq0 := hN_0.mp hq
  rw [hN_new (ci := 5) (fs := oN (fun _ _ => 0) (fun _ _ => none) (fun _ _ => 0) 5 0) (v := 0) hD hq0 (by decide) rfl]
  exact kk q hq0
theorem wn_new_Frm {idx : Nat} (hd : decode (mB y) pc = .ok (.new idx, 3)) (hw : GoodIn lw_tbl [Cond.classLink (mN y).cls idx R_Frm, .instantiable R_Frm 3, .initialized R_Frm]) (hD : DF K I R L E El Er) (kk : ∀ q : Nat, K q = 0 → WP G y B (pc + 3) lv (.ref q :: st) (hN (va_up K q (6 + 1)) N I R L E El Er) k n) : WP G y B pc lv st (hN K N I R L E El Er) (k + 1) (n + 3) := by
  refine wp_new (C := R_Frm) (T := T_Frm) (N := 3) (ci := 6) (fs := oN (fun _ _ => 0) (fun _ _ => none) (fun _ _ => 0) 6 0) hd rfl g_Frm t_Frm t_Frm_ok hw (by decide +kernel) (fun q hq => ?_)
  have hq0 := hN_0.mp hq
  rw [hN_new (ci := 6) (fs := oN (fun _ _ => 0) (fun _ _ => none) (fun _ _ => 0) 6 0) (v := 0) hD hq0 (by decide) rfl]
  exact kk q hq0
theorem wn_new_Frs {idx : Nat} (hd : decode (mB y) pc = .ok (.new idx, 3)) (hw : GoodIn lw_tbl [Cond.classLink (mN y).cls idx R_Frs, .instantiable R_Frs 3, .initialized R_Frs]) (hD : DF K I R L E El Er) (kk : ∀ q : Nat, K q = 0 → WP G y B (pc + 3) lv (.ref q :: st) (hN (va_up K q (7 + 1)) N I R L E El Er) k n) : WP G y B pc lv st (hN K N I R L E El Er) (k + 1) (n + 3) := by
  refine wp_new (C := R_Frs) (T := T_Frs) (N := 3) (ci := 7) (fs := oN (fun _ _ => 0) (fun _ _ => none) (fun _ _ => 0) 7 0) hd rfl g_Frs t_Frs t_Frs_ok hw (by decide +kernel) (fun q hq => ?_)
  have hq0 := hN_0.mp hq
  rw [hN_new (ci := 7) (fs := oN (fun _ _ => 0) (fun _ _ => none) (fun _ _ => 0) 7 0) (v := 0) hD hq0 (by decide) rfl]
  exact kk q hq0
theorem wn_new_Lin {idx : Nat} (hd : decode (mB y) pc = .ok (.new idx, 3)) (hw : GoodIn lw_tbl [Cond.classLink (mN y).cls idx R_Lin, .instantiable R_Lin 5, .initialized R_Lin]) (hD : DF K I R L E El Er) (kk : ∀ q : Nat, K q = 0 → WP G y B (pc + 3) lv (.ref q :: st) (hN (va_up K q (8 + 1)) N I R L E El Er) k n) : WP G y B pc lv st (hN K N I R L E El Er) (k + 1) (n + 5) := by
  refine wp_new (C := R_Lin) (T := T_Lin) (N := 5) (ci := 8) (fs := oN (fun _ _ => 0) (fun _ _ => none) (fun _ _ => 0) 8 0) hd rfl g_Lin t_Lin t_Lin_ok hw (by decide +kernel) (fun q hq => ?_)
  have hq0 := hN_0.mp hq
  rw [hN_new (ci := 8) (fs := oN (fun _ _ => 0) (fun _ _ => none) (fun _ _ => 0) 8 0) (v := 0) hD hq0 (by decide) rfl]
  exact kk q hq0
theorem wn_new_Msg {idx : Nat} (hd : decode (mB y) pc = .ok (.new idx, 3)) (hw : GoodIn lw_tbl [Cond.classLink (mN y).cls idx R_Msg, .instantiable R_Msg 5, .initialized R_Msg]) (hD : DF K I R L E El Er) (kk : ∀ q : Nat, K q = 0 → WP G y B (pc + 3) lv (.ref q :: st) (hN (va_up K q (9 + 1)) N I R L E El Er) k n) : WP G y B pc lv st (hN K N I R L E El Er) (k + 1) (n + 5) := by
  refine wp_new (C := R_Msg) (T := T_Msg) (N := 5) (ci := 9) (fs := oN (fun _ _ => 0) (fun _ _ => none) (fun _ _ => 0) 9 0) hd rfl g_Msg t_Msg t_Msg_ok hw (by decide +kernel) (fun q hq => ?_)
  have hq0 := hN_0.mp hq
  rw [hN_new (ci := 9) (fs := oN (fun _ _ => 0) (fun _ _ => none) (fun _ _ => 0) 9 0) (v := 0) hD hq0 (by decide) rfl]
  exact kk q hq0
theorem wn_new_Swt {idx : Nat} (hd : decode (mB y) pc = .ok (.new idx, 3)) (hw : GoodIn lw_tbl [Cond.classLink (mN y).cls idx R_Swt, .instantiable R_Swt 8, .initialized R_Swt]) (hD : DF K I R L E El Er) (kk : ∀ q : Nat, K q = 0 → WP G y B (pc + 3) lv (.ref q :: st) (hN (va_up K q (10 + 1)) N I R L E El Er) k n) : WP G y B pc lv st (hN K N I R L E El Er) (k + 1) (n + 8) := by
  refine wp_new (C := R_Swt) (T := T_Swt) (N := 8) (ci := 10) (fs := oN (fun _ _ => 0) (fun _ _ => none) (fun _ _ => 0) 10 0) hd rfl g_Swt t_Swt t_Swt_ok hw (by decide +kernel) (fun q hq => ?_)
  have hq0 := hN_0.mp hq
  rw [hN_new (ci := 10) (fs := oN (fun _ _ => 0) (fun _ _ => none) (fun _ _ => 0) 10 0) (v := 0) hD hq0 (by decide) rfl]
  exact kk q hq0
end CModel
