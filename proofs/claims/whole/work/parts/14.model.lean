section Model
/-! the reference: its object at o, its arrays at A j (j: the field's number); ints Fi j, elements M j i (longs: Ml j i) -/
def fM (A : Nat → Nat) (Fi : Nat → Int32) : List Value := [.int (Fi 0), .int (Fi 1), .int (Fi 2), .ref (A 3), .ref (A 4), .ref (A 5), .ref (A 6), .ref (A 7), .ref (A 8), .ref (A 9), .ref (A 10), .ref (A 11), .ref (A 12), .ref (A 13), .ref (A 14), .int (Fi 15), .ref (A 16), .ref (A 17), .ref (A 18), .ref (A 19), .ref (A 20), .ref (A 21), .int (Fi 22), .ref (A 23), .ref (A 24), .ref (A 25), .ref (A 26), .ref (A 27), .ref (A 28), .ref (A 29), .ref (A 30), .ref (A 31), .ref (A 32), .ref (A 33), .ref (A 34), .ref (A 35), .ref (A 36), .int (Fi 37), .int (Fi 38), .int (Fi 39), .int (Fi 40), .int (Fi 41), .ref (A 42)]
def mArrs : List Nat := [3, 4, 5, 6, 7, 8, 9, 10, 11, 12, 13, 14, 16, 17, 18, 19, 20, 21, 23, 24, 25, 26, 27, 28, 29, 30, 31, 32, 33, 34, 35, 36, 42]
def mTy (j : Nat) : Nat := if j ∈ [11, 20] then 1 else if j ∈ [6, 9, 32] then 3 else 0
def mLen (j : Nat) : Nat := match j with
  | 3 => 8000
  | 4 => 8000
  | 5 => 1600
  | 6 => 8
  | 7 => 8
  | 8 => 8
  | 9 => 8
  | 10 => 6
  | 11 => 96
  | 12 => 96
  | 13 => 96
  | 14 => 96
  | 16 => 201
  | 17 => 201
  | 18 => 201
  | 19 => 201
  | 20 => 1407
  | 21 => 201
  | 23 => 2000
  | 24 => 16
  | 25 => 16
  | 26 => 16
  | 27 => 320
  | 28 => 16
  | 29 => 3200
  | 30 => 16
  | 31 => 16
  | 32 => 16
  | 33 => 6
  | 34 => 6
  | 35 => 6
  | 36 => 1200
  | 42 => 9
  | _ => 0
def mArr (M : Nat → Nat → Int32) (Ml : Nat → Nat → Int64) (j : Nat) : AObj := .inl (mTy j, mLen j, if mTy j = 1 then .inr (.inl (Ml j)) else .inl (M j))
def hM (o : Nat) (A : Nat → Nat) (Fi : Nat → Int32) (M : Nat → Nat → Int32) (Ml : Nat → Nat → Int64) : AHp := fun q => if q = o then some (.inr (11, fM A Fi)) else match mArrs.find? (fun j => A j == q) with
  | some j => some (mArr M Ml j)
  | none => none
def mInj (o : Nat) (A : Nat → Nat) : Prop := (∀ j ∈ mArrs, A j ≠ o) ∧ ∀ i ∈ mArrs, ∀ j ∈ mArrs, A i = A j → i = j
variable {o : Nat} {A : Nat → Nat} {Fi Fi' : Nat → Int32} {M M' : Nat → Nat → Int32} {Ml Ml' : Nat → Nat → Int64}
theorem hM_o : hM o A Fi M Ml o = some (.inr (11, fM A Fi)) := by simp [hM]
theorem mFind {j : Nat} (hI : mInj o A) (hj : j ∈ mArrs) : mArrs.find? (fun i => A i == A j) = some j := by
  cases hc : mArrs.find? (fun i => A i == A j) with
  | none =>
    have := List.find?_eq_none.mp hc j hj
    simp at this
  | some i =>
    have h1 : i ∈ mArrs := List.mem_of_find?_eq_some hc
    have h2 := List.find?_some hc
    simp at h2
    rw [hI.2 i h1 j hj h2]
theorem hM_a {j : Nat} (hI : mInj o A) (hj : j ∈ mArrs) : hM o A Fi M Ml (A j) = some (mArr M Ml j) := by
  simp [hM, hI.1 j hj, mFind hI hj]
theorem hM_putF : hup (hM o A Fi M Ml) o (.inr (11, fM A Fi')) = hM o A Fi' M Ml := by
  funext q
  by_cases hq : q = o
  · subst hq
    rw [hup_eq, hM_o]
  · rw [hup_ne hq]
    simp [hM, hq]
theorem hM_putA {j : Nat} {c : AObj} (hI : mInj o A) (hj : j ∈ mArrs) (hc : c = mArr M' Ml' j) (h1 : ∀ i, i ≠ j → M' i = M i ∧ Ml' i = Ml i) : hup (hM o A Fi M Ml) (A j) c = hM o A Fi M' Ml' := by
  subst hc
  funext q
  by_cases hq : q = A j
  · subst hq
    rw [hup_eq, hM_a hI hj]
  · rw [hup_ne hq]
    unfold hM
    by_cases ho : q = o
    · simp [ho]
    · simp only [ho, if_false]
      cases hf : mArrs.find? (fun i => A i == q) with
      | none => rfl
      | some i =>
        have h2 := List.find?_some hf
        simp at h2
        have h3 : i ≠ j := fun e => hq (by rw [← h2, e])
        simp [mArr, (h1 i h3).1, (h1 i h3).2]
def u2 (M : Nat → Nat → Int32) (j i : Nat) (x : Int32) : Nat → Nat → Int32 := va_up M j (upd (M j) i x)
def u2l (M : Nat → Nat → Int64) (j i : Nat) (x : Int64) : Nat → Nat → Int64 := va_up M j (vp_updL (M j) i x)
theorem u2_ne (M : Nat → Nat → Int32) {j i a : Nat} (x : Int32) (h : a ≠ j) : u2 M j i x a = M a := by
  unfold u2 va_up
  rw [if_neg h]
theorem u2_at (M : Nat → Nat → Int32) (j i b : Nat) (x : Int32) : u2 M j i x j b = if b = i then x else M j b := by
  simp [u2, va_up, upd]
theorem u2l_ne (M : Nat → Nat → Int64) {j i a : Nat} (x : Int64) (h : a ≠ j) : u2l M j i x a = M a := by
  unfold u2l va_up
  rw [if_neg h]
theorem u2l_at (M : Nat → Nat → Int64) (j i b : Nat) (x : Int64) : u2l M j i x j b = if b = i then x else M j b := by
  simp [u2l, va_up, vp_updL]
variable {G : Gt} {y : Mi} {B : Bt} {pc : Nat} {lv : List (Nat × Value)} {st : List Value} {k n : Nat}
theorem wm_get {idx : Nat} {v : Value} (hd : decode (mB y) pc = .ok (.getfield idx, 3)) (j : Nat) (hj : j < 43) (hw : GoodIn lw_tbl [Cond.fieldLink (mN y).cls idx (T_Mod j).1 (T_Mod j).2.1 (T_Mod j).2.2.1]) (hv : (fM A Fi)[j]? = some v)
    (kk : WP G y B (pc + 3) lv (v :: st) (hM o A Fi M Ml) k n) : WP G y B pc lv (.ref o :: st) (hM o A Fi M Ml) k n :=
  wp_get (C := R_Mod) (T := T_Mod) (N := 43) hd hM_o rfl g_Mod j hj hw hv kk
theorem wm_put {idx : Nat} {x : Int32} (hd : decode (mB y) pc = .ok (.putfield idx, 3)) (j : Nat) (hj : j < 43) (hw : GoodIn lw_tbl [Cond.fieldLink (mN y).cls idx (T_Mod j).1 (T_Mod j).2.1 (T_Mod j).2.2.1]) (hfin : (T_Mod j).2.2.2 = false) (hde : parseFieldDescriptor (T_Mod j).2.2.1 = some .int) (hs : (fM A Fi).set j (.int x) = fM A Fi')
    (kk : WP G y B (pc + 3) lv st (hM o A Fi' M Ml) k n) : WP G y B pc lv (.int x :: .ref o :: st) (hM o A Fi M Ml) k n := by
  refine wp_put (C := R_Mod) (T := T_Mod) (N := 43) (ty := .int) hd hM_o rfl g_Mod t_Mod t_Mod_ok n_Mod j hj hw hfin hde rfl rfl (by show j < 43; exact hj) ?_
  rw [hs, hM_putF]
  exact kk
theorem wm_ild {j i : Nat} {x : Int32} (hd : decode (mB y) pc = .ok (.iaload, 1)) (hI : mInj o A) (hj : j ∈ mArrs) (ht : mTy j = 0) (hi : i < mLen j) (hl : mLen j ≤ 8000) (hx : M j i = x) (kk : WP G y B (pc + 1) lv (.int x :: st) (hM o A Fi M Ml) k n) : WP G y B pc lv (.int (nI i) :: .ref (A j) :: st) (hM o A Fi M Ml) k n := by
  have ha : hM o A Fi M Ml (A j) = some (.inl (0, mLen j, .inl (M j))) := by rw [hM_a hI hj]; simp [mArr, ht]
  refine wp_iald hd ha rfl (vp_in_nI hi (by omega)) ?_
  rw [nI_clamp (by omega), hx]
  exact kk
theorem wm_zld {j i : Nat} {x : Int32} (hd : decode (mB y) pc = .ok (.baload, 1)) (hI : mInj o A) (hj : j ∈ mArrs) (ht : mTy j = 3) (hi : i < mLen j) (hl : mLen j ≤ 8000) (hx : M j i = x) (kk : WP G y B (pc + 1) lv (.int x :: st) (hM o A Fi M Ml) k n) : WP G y B pc lv (.int (nI i) :: .ref (A j) :: st) (hM o A Fi M Ml) k n := by
  have ha : hM o A Fi M Ml (A j) = some (.inl (3, mLen j, .inl (M j))) := by rw [hM_a hI hj]; simp [mArr, ht]
  refine wp_zald hd ha rfl (vp_in_nI hi (by omega)) ?_
  rw [nI_clamp (by omega), hx]
  exact kk
theorem wm_lld {j i : Nat} {x : Int64} (hd : decode (mB y) pc = .ok (.laload, 1)) (hI : mInj o A) (hj : j ∈ mArrs) (ht : mTy j = 1) (hi : i < mLen j) (hl : mLen j ≤ 8000) (hx : Ml j i = x) (kk : WP G y B (pc + 1) lv (.long x :: st) (hM o A Fi M Ml) k n) : WP G y B pc lv (.int (nI i) :: .ref (A j) :: st) (hM o A Fi M Ml) k n := by
  have ha : hM o A Fi M Ml (A j) = some (.inl (1, mLen j, .inr (.inl (Ml j)))) := by rw [hM_a hI hj]; simp [mArr, ht]
  refine wp_lald hd ha rfl (vp_in_nI hi (by omega)) ?_
  rw [nI_clamp (by omega), hx]
  exact kk
theorem wm_ist {j i : Nat} {x : Int32} (hd : decode (mB y) pc = .ok (.iastore, 1)) (hI : mInj o A) (hj : j ∈ mArrs) (ht : mTy j = 0) (hi : i < mLen j) (hl : mLen j ≤ 8000) (kk : WP G y B (pc + 1) lv st (hM o A Fi (u2 M j i x) Ml) k n) : WP G y B pc lv (.int x :: .int (nI i) :: .ref (A j) :: st) (hM o A Fi M Ml) k n := by
  have ha : hM o A Fi M Ml (A j) = some (.inl (0, mLen j, .inl (M j))) := by rw [hM_a hI hj]; simp [mArr, ht]
  refine wp_iast hd ha rfl (vp_in_nI hi (by omega)) ?_
  rw [nI_clamp (by omega), hM_putA (M' := u2 M j i x) (Ml' := Ml) hI hj (by simp [mArr, ht, u2, va_up]) (fun a ha => ⟨u2_ne M x ha, rfl⟩)]
  exact kk
theorem wm_zst {j i : Nat} {x z : Int32} (hd : decode (mB y) pc = .ok (.bastore, 1)) (hI : mInj o A) (hj : j ∈ mArrs) (ht : mTy j = 3) (hi : i < mLen j) (hl : mLen j ≤ 8000) (hz : vp_nar .boolean x = z) (kk : WP G y B (pc + 1) lv st (hM o A Fi (u2 M j i z) Ml) k n) : WP G y B pc lv (.int x :: .int (nI i) :: .ref (A j) :: st) (hM o A Fi M Ml) k n := by
  have ha : hM o A Fi M Ml (A j) = some (.inl (3, mLen j, .inl (M j))) := by rw [hM_a hI hj]; simp [mArr, ht]
  refine wp_zast hd ha rfl (vp_in_nI hi (by omega)) ?_
  rw [nI_clamp (by omega), hz, hM_putA (M' := u2 M j i z) (Ml' := Ml) hI hj (by simp [mArr, ht, u2, va_up]) (fun a ha => ⟨u2_ne M z ha, rfl⟩)]
  exact kk
theorem wm_lst {j i : Nat} {x : Int64} (hd : decode (mB y) pc = .ok (.lastore, 1)) (hI : mInj o A) (hj : j ∈ mArrs) (ht : mTy j = 1) (hi : i < mLen j) (hl : mLen j ≤ 8000) (kk : WP G y B (pc + 1) lv st (hM o A Fi M (u2l Ml j i x)) k n) : WP G y B pc lv (.long x :: .int (nI i) :: .ref (A j) :: st) (hM o A Fi M Ml) k n := by
  have ha : hM o A Fi M Ml (A j) = some (.inl (1, mLen j, .inr (.inl (Ml j)))) := by rw [hM_a hI hj]; simp [mArr, ht]
  refine wp_last hd ha rfl (vp_in_nI hi (by omega)) ?_
  rw [nI_clamp (by omega), hM_putA (M' := M) (Ml' := u2l Ml j i x) hI hj (by simp [mArr, ht, u2l, va_up]) (fun a ha => ⟨rfl, u2l_ne Ml x ha⟩)]
  exact kk
end Model
