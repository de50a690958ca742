section MInit
theorem wCa_Z : GoodIn lw_tbl [Cond.arrayClass .boolean] := goodIn_r _ [1103] (by decide +kernel) (by decide +kernel)
/-! the reference as far as it is made: its first t arrays -/
def fMp (t : Nat) (A : Nat → Nat) : List Value := (List.range 43).map fun j => if j ∈ mArrs.take t then .ref (A j) else if j ∈ mArrs then .null else .int 0
def mZ (j : Nat) : AObj := mArr (fun _ _ => 0) (fun _ _ => 0) j
def hMp (o t : Nat) (A : Nat → Nat) : AHp := fun q => if q = o then some (.inr (11, fMp t A)) else match (mArrs.take t).find? (fun j => A j == q) with
  | some j => some (mZ j)
  | none => none
def mIn (o t : Nat) (A : Nat → Nat) : Prop := (∀ j ∈ mArrs.take t, A j ≠ o) ∧ ∀ i ∈ mArrs.take t, ∀ j ∈ mArrs.take t, A i = A j → i = j
theorem mArrs_nd : mArrs.Nodup := by decide
theorem mArrs_t {t j : Nat} (h : mArrs[t]? = some j) : mArrs.take (t + 1) = mArrs.take t ++ [j] ∧ j ∉ mArrs.take t ∧ j ∈ mArrs := by
  obtain ⟨ht, he⟩ := List.getElem?_eq_some_iff.mp h
  have e1 : mArrs.take (t + 1) = mArrs.take t ++ [j] := by rw [List.take_succ, h]; rfl
  refine ⟨e1, fun hm => ?_, List.mem_of_getElem? h⟩
  have hn : (mArrs.take (t + 1)).Nodup := List.Nodup.sublist (List.take_sublist _ _) mArrs_nd
  rw [e1, List.nodup_append] at hn
  exact hn.2.2 j hm j List.mem_cons_self rfl
theorem hMp_o (o t : Nat) (A : Nat → Nat) : hMp o t A o = some (.inr (11, fMp t A)) := if_pos rfl
theorem hMp_q {o t q : Nat} {A : Nat → Nat} (h : hMp o t A q = none) : q ≠ o ∧ ∀ i ∈ mArrs.take t, A i ≠ q := by
  have h0 : q ≠ o := fun e => by rw [e, hMp_o] at h; cases h
  refine ⟨h0, fun i hi e => ?_⟩
  unfold hMp at h
  rw [if_neg h0] at h
  cases hc : (mArrs.take t).find? (fun j => A j == q) with
  | none =>
    have := List.find?_eq_none.mp hc i hi
    rw [e] at this
    simp at this
  | some j => rw [hc] at h; cases h
theorem fMp_at {t i : Nat} {A : Nat → Nat} (h : i < (fMp t A).length) : (fMp t A)[i] = if i ∈ mArrs.take t then .ref (A i) else if i ∈ mArrs then .null else .int 0 := by simp [fMp]
theorem fMp_s {t j q : Nat} {A : Nat → Nat} (h : mArrs[t]? = some j) : (fMp t A).set j (.ref q) = fMp (t + 1) (va_up A j q) := by
  obtain ⟨e1, h2, h3⟩ := mArrs_t h
  refine List.ext_getElem ?_ (fun i hi hi2 => ?_)
  · rw [List.length_set]
    unfold fMp
    rw [List.length_map, List.length_map]
  · rw [List.getElem_set, fMp_at, fMp_at, e1]
    by_cases hij : j = i
    · subst hij
      rw [if_pos rfl, if_pos (List.mem_append.mpr (Or.inr List.mem_cons_self))]
      congr 1
      exact (if_pos rfl).symm
    · rw [if_neg hij]
      have hi3 : i ∈ mArrs.take t ++ [j] ↔ i ∈ mArrs.take t := by
        rw [List.mem_append, List.mem_singleton]
        exact ⟨fun z => z.resolve_right (fun z => hij z.symm), Or.inl⟩
      have hv : va_up A j q i = A i := if_neg (fun z => hij z.symm)
      rw [hv]
      by_cases hm : i ∈ mArrs.take t
      · rw [if_pos hm, if_pos (hi3.mpr hm)]
      · rw [if_neg hm, if_neg (fun z => hm (hi3.mp z))]
theorem hMp_s {o t j q : Nat} {A : Nat → Nat} (h : mArrs[t]? = some j) (hq : hMp o t A q = none) (hI : mIn o t A) : hup (hup (hMp o t A) q (mZ j)) o (.inr (11, (fMp t A).set j (.ref q))) = hMp o (t + 1) (va_up A j q) ∧ mIn o (t + 1) (va_up A j q) := by
  obtain ⟨e1, h2, h3⟩ := mArrs_t h
  obtain ⟨q0, q1⟩ := hMp_q hq
  have hv : ∀ i ∈ mArrs.take t, va_up A j q i = A i := fun i hi => by have hne : i ≠ j := fun z => h2 (by rw [← z]; exact hi); simp [va_up, hne]
  have hvj : va_up A j q j = q := if_pos rfl
  constructor
  · funext p
    by_cases hp : p = o
    · subst hp
      rw [hup_eq, hMp_o, fMp_s h]
    · rw [hup_ne hp]
      have er : ∀ (B : Nat → Nat) (t : Nat), hMp o t B p = (match (mArrs.take t).find? (fun j => B j == p) with | some j => some (mZ j) | none => none) := fun B t => if_neg hp
      rw [er, e1, List.find?_append]
      by_cases hpq : p = q
      · subst hpq
        rw [hup_eq]
        have hn : (mArrs.take t).find? (fun i => va_up A j p i == p) = none := List.find?_eq_none.mpr (fun i hi => by rw [hv i hi]; simpa using q1 i hi)
        rw [hn]
        simp [hvj]
      · rw [hup_ne hpq, er]
        have hc : (mArrs.take t).find? (fun i => va_up A j q i == p) = (mArrs.take t).find? (fun i => A i == p) := by
          have : ∀ l : List Nat, (∀ i ∈ l, va_up A j q i = A i) → l.find? (fun i => va_up A j q i == p) = l.find? (fun i => A i == p) := by
            intro l
            induction l with
            | nil => intro _; rfl
            | cons a l ih =>
              intro hl
              rw [List.find?_cons, List.find?_cons, hl a List.mem_cons_self, ih (fun i hi => hl i (List.mem_cons_of_mem _ hi))]
          exact this _ hv
        rw [hc]
        have hs : [j].find? (fun i => va_up A j q i == p) = none := by
          rw [List.find?_eq_none]
          intro i hi
          rw [List.mem_singleton.mp hi, hvj]
          simpa using fun z => hpq z.symm
        rw [hs, Option.or_none]
  · unfold mIn
    rw [e1]
    refine ⟨fun i hi => ?_, fun i hi i2 hi2 he => ?_⟩
    · rcases List.mem_append.mp hi with hi | hi
      · rw [hv i hi]
        exact hI.1 i hi
      · rw [List.mem_singleton.mp hi, hvj]
        exact q0
    · rcases List.mem_append.mp hi with hi | hi <;> rcases List.mem_append.mp hi2 with hi2 | hi2
      · rw [hv i hi, hv i2 hi2] at he
        exact hI.2 i hi i2 hi2 he
      · rw [hv i hi, List.mem_singleton.mp hi2, hvj] at he
        exact absurd he (q1 i hi)
      · rw [hv i2 hi2, List.mem_singleton.mp hi, hvj] at he
        exact absurd he.symm (q1 i2 hi2)
      · rw [List.mem_singleton.mp hi, List.mem_singleton.mp hi2]
/-- an array is made and put into its field -/
theorem wm_mk {G : Gt} {y : Mi} {B : Bt} {pc : Nat} {lv : List (Nat × Value)} {st : List Value} {k n : Nat} {o t j len idx : Nat} {A : Nat → Nat} {atype : ArrayType} {ty : FieldType} {a0 : vp_A} (hj : mArrs[t]? = some j) (hd : decode (mB y) pc = .ok (.newarray atype, 2)) (hd2 : decode (mB y) (pc + 2) = .ok (.putfield idx, 3)) (hty : newarray.typeOf atype = ty) (ht : aTy[mTy j]? = some ty) (hprim : ∀ C, ty ≠ .object C) (hw : GoodIn lw_tbl [Cond.arrayClass ty]) (ha : ∀ cA : ClassId, vp_cell cA a0 = arrV cA len (fun _ => defaultValue ty)) (hl : len ≤ 8000) (hb : len * componentBytes ty ≤ 536870912) (hz : mZ j = .inl (mTy j, a0)) (hj43 : j < 43) (hwf : GoodIn lw_tbl [Cond.fieldLink (mN y).cls idx (T_Mod j).1 (T_Mod j).2.1 (T_Mod j).2.2.1]) (hfin : (T_Mod j).2.2.2 = true) (hinit : (mN y).name = "<init>") (hdecl : (T_Mod j).1 = (mN y).cls) (ty2 : FieldType) (hde : parseFieldDescriptor (T_Mod j).2.2.1 = some ty2) (hn : ∀ q, narrow ty2 (.ref q) = .ref q) (hfit : ∀ q, fits ty2 (.ref q) = true) (hI : mIn o t A)
    (kk : ∀ A', mIn o (t + 1) A' → WP G y B (pc + 5) lv st (hMp o (t + 1) A') k n) : WP G y B pc lv (.int (nI len) :: .ref o :: st) (hMp o t A) (k + 1) (n + len) := by
  refine wp_newa (t := mTy j) (N := len) (a0 := a0) hd hty ht hprim hw ha (nI_pos (by omega)) (nI_clamp (by omega)) hb (fun q hq => ?_)
  rw [← hz]
  refine wp_putF (C := R_Mod) (T := T_Mod) (N := 43) (ci := 11) (fs := fMp t A) (ty := ty2) hd2 (by rw [hup_ne (Ne.symm (hMp_q hq).1), hMp_o]) rfl g_Mod t_Mod t_Mod_ok n_Mod j hj43 hwf hfin hinit hdecl hde (hn q) (hfit q) (by unfold fMp; rw [List.length_map, List.length_range]; exact hj43) ?_
  obtain ⟨h1, h2⟩ := hMp_s hj hq hI
  rw [h1]
  exact kk _ h2
theorem hMp_0 {o : Nat} {A : Nat → Nat} : hMp o 0 A = hup (fun _ => none) o (.inr (11, fMp 0 A)) := by
  funext p
  by_cases hp : p = o
  · subst hp
    rw [hMp_o, hup_eq]
  · rw [hup_ne hp]
    unfold hMp
    rw [if_neg hp]
    rfl
theorem hMp_33 {o : Nat} {A : Nat → Nat} : hMp o 33 A = hM o A (fun _ => 0) (fun _ _ => 0) (fun _ _ => 0) := rfl
theorem repM_0 : RepM sa0 (fun _ => 0) (fun _ _ => 0) (fun _ _ => 0) := by
  refine ⟨⟨rfl, rfl, rfl, rfl⟩, ⟨fun i p hp => (by cases hp), fun p hp => rfl⟩, fun l hl => ⟨rfl, rfl, fun a b v hv => (by cases hv)⟩, fun x hx => ⟨rfl, fun k e he => (by cases he)⟩, fun i m hm => (by cases hm), fun m h1 h2 => (by exact absurd h2 (by show ¬ m ≤ 0; omega)), fun i c hc => (by cases hc), fun c hc => ⟨fun h => (by cases h), rfl, fun k x hk => (by exact absurd hk (by show ¬ k < 0; omega)), rfl, fun k f hf => (by cases hf), rfl, rfl⟩, fun x hx => rfl, fun x hx => rfl, fun x hx => ⟨rfl, fun i m hm => (by cases hm)⟩⟩
set_option maxRecDepth 20000 in
theorem c_Mod_init {G : Gt} {o : Nat} {A0 : Nat → Nat} : CallE G m_Mod_init 1 12 [.ref o] (hMp o 0 A0) (0 + 1 + 1 + 1 + 1 + 1 + 1 + 1 + 1 + 1 + 1 + 1 + 1 + 1 + 1 + 1 + 1 + 1 + 1 + 1 + 1 + 1 + 1 + 1 + 1 + 1 + 1 + 1 + 1 + 1 + 1 + 1 + 1 + 1) (0 + 9 + 1200 + 6 + 6 + 6 + 16 + 16 + 16 + 3200 + 16 + 320 + 16 + 16 + 16 + 2000 + 201 + 1407 + 201 + 201 + 201 + 201 + 96 + 96 + 96 + 96 + 6 + 8 + 8 + 8 + 8 + 1600 + 8000 + 8000) none (fun h' => ∃ A, mInj o A ∧ h' = hM o A (fun _ => 0) (fun _ _ => 0) (fun _ _ => 0)) := by
  refine CallS.of (Nat.le_of_ble_eq_true rfl) ?_
  have hI0 : mIn o 0 A0 := ⟨fun j hj => (by cases hj), fun i hi => (by cases hi)⟩
  refine wp_aload_n d_Mod_init_0 rfl 0 rfl ?_
  refine wp_objInit d_Mod_init_1 wM_Mod_1 ⟨Nat.le_of_ble_eq_true rfl, Nat.le_of_ble_eq_true rfl⟩ ?_
  refine wp_aload_n d_Mod_init_4 rfl 0 rfl ?_
  refine wp_sipush (v := nI 8000) d_Mod_init_5 (by decide) ?_
  refine wm_mk (t := 0) (j := 3) (len := 8000) (a0 := (8000, .inl fun _ => 0)) rfl d_Mod_init_8 d_Mod_init_10 rfl rfl (fun C h9 => by cases h9) wCa_I (fun cA => rfl) (by decide) (by decide) rfl (by decide) wF_Mod_7 rfl rfl rfl (t_Mod 3) (t_Mod_ok 3 (by decide)) (fun q => rfl) (fun q => rfl) hI0 (fun A1 hI1 => ?_)
  refine wp_aload_n d_Mod_init_13 rfl 0 rfl ?_
  refine wp_sipush (v := nI 8000) d_Mod_init_14 (by decide) ?_
  refine wm_mk (t := 1) (j := 4) (len := 8000) (a0 := (8000, .inl fun _ => 0)) rfl d_Mod_init_17 d_Mod_init_19 rfl rfl (fun C h9 => by cases h9) wCa_I (fun cA => rfl) (by decide) (by decide) rfl (by decide) wF_Mod_13 rfl rfl rfl (t_Mod 4) (t_Mod_ok 4 (by decide)) (fun q => rfl) (fun q => rfl) hI1 (fun A2 hI2 => ?_)
  refine wp_aload_n d_Mod_init_22 rfl 0 rfl ?_
  refine wp_sipush (v := nI 1600) d_Mod_init_23 (by decide) ?_
  refine wm_mk (t := 2) (j := 5) (len := 1600) (a0 := (1600, .inl fun _ => 0)) rfl d_Mod_init_26 d_Mod_init_28 rfl rfl (fun C h9 => by cases h9) wCa_I (fun cA => rfl) (by decide) (by decide) rfl (by decide) wF_Mod_16 rfl rfl rfl (t_Mod 5) (t_Mod_ok 5 (by decide)) (fun q => rfl) (fun q => rfl) hI2 (fun A3 hI3 => ?_)
  refine wp_aload_n d_Mod_init_31 rfl 0 rfl ?_
  refine wp_bipush (v := nI 8) d_Mod_init_32 (by decide) ?_
  refine wm_mk (t := 3) (j := 6) (len := 8) (a0 := (8, .inl fun _ => 0)) rfl d_Mod_init_34 d_Mod_init_36 rfl rfl (fun C h9 => by cases h9) wCa_Z (fun cA => rfl) (by decide) (by decide) rfl (by decide) wF_Mod_19 rfl rfl rfl (t_Mod 6) (t_Mod_ok 6 (by decide)) (fun q => rfl) (fun q => rfl) hI3 (fun A4 hI4 => ?_)
  refine wp_aload_n d_Mod_init_39 rfl 0 rfl ?_
  refine wp_bipush (v := nI 8) d_Mod_init_40 (by decide) ?_
  refine wm_mk (t := 4) (j := 7) (len := 8) (a0 := (8, .inl fun _ => 0)) rfl d_Mod_init_42 d_Mod_init_44 rfl rfl (fun C h9 => by cases h9) wCa_I (fun cA => rfl) (by decide) (by decide) rfl (by decide) wF_Mod_23 rfl rfl rfl (t_Mod 7) (t_Mod_ok 7 (by decide)) (fun q => rfl) (fun q => rfl) hI4 (fun A5 hI5 => ?_)
  refine wp_aload_n d_Mod_init_47 rfl 0 rfl ?_
  refine wp_bipush (v := nI 8) d_Mod_init_48 (by decide) ?_
  refine wm_mk (t := 5) (j := 8) (len := 8) (a0 := (8, .inl fun _ => 0)) rfl d_Mod_init_50 d_Mod_init_52 rfl rfl (fun C h9 => by cases h9) wCa_I (fun cA => rfl) (by decide) (by decide) rfl (by decide) wF_Mod_26 rfl rfl rfl (t_Mod 8) (t_Mod_ok 8 (by decide)) (fun q => rfl) (fun q => rfl) hI5 (fun A6 hI6 => ?_)
  refine wp_aload_n d_Mod_init_55 rfl 0 rfl ?_
  refine wp_bipush (v := nI 8) d_Mod_init_56 (by decide) ?_
  refine wm_mk (t := 6) (j := 9) (len := 8) (a0 := (8, .inl fun _ => 0)) rfl d_Mod_init_58 d_Mod_init_60 rfl rfl (fun C h9 => by cases h9) wCa_Z (fun cA => rfl) (by decide) (by decide) rfl (by decide) wF_Mod_29 rfl rfl rfl (t_Mod 9) (t_Mod_ok 9 (by decide)) (fun q => rfl) (fun q => rfl) hI6 (fun A7 hI7 => ?_)
  refine wp_aload_n d_Mod_init_63 rfl 0 rfl ?_
  refine wp_bipush (v := nI 6) d_Mod_init_64 (by decide) ?_
  refine wm_mk (t := 7) (j := 10) (len := 6) (a0 := (6, .inl fun _ => 0)) rfl d_Mod_init_66 d_Mod_init_68 rfl rfl (fun C h9 => by cases h9) wCa_I (fun cA => rfl) (by decide) (by decide) rfl (by decide) wF_Mod_32 rfl rfl rfl (t_Mod 10) (t_Mod_ok 10 (by decide)) (fun q => rfl) (fun q => rfl) hI7 (fun A8 hI8 => ?_)
  refine wp_aload_n d_Mod_init_71 rfl 0 rfl ?_
  refine wp_bipush (v := nI 96) d_Mod_init_72 (by decide) ?_
  refine wm_mk (t := 8) (j := 11) (len := 96) (a0 := (96, .inr (.inl fun _ => 0))) rfl d_Mod_init_74 d_Mod_init_76 rfl rfl (fun C h9 => by cases h9) wCa_J (fun cA => rfl) (by decide) (by decide) rfl (by decide) wF_Mod_35 rfl rfl rfl (t_Mod 11) (t_Mod_ok 11 (by decide)) (fun q => rfl) (fun q => rfl) hI8 (fun A9 hI9 => ?_)
  refine wp_aload_n d_Mod_init_79 rfl 0 rfl ?_
  refine wp_bipush (v := nI 96) d_Mod_init_80 (by decide) ?_
  refine wm_mk (t := 9) (j := 12) (len := 96) (a0 := (96, .inl fun _ => 0)) rfl d_Mod_init_82 d_Mod_init_84 rfl rfl (fun C h9 => by cases h9) wCa_I (fun cA => rfl) (by decide) (by decide) rfl (by decide) wF_Mod_39 rfl rfl rfl (t_Mod 12) (t_Mod_ok 12 (by decide)) (fun q => rfl) (fun q => rfl) hI9 (fun A10 hI10 => ?_)
  refine wp_aload_n d_Mod_init_87 rfl 0 rfl ?_
  refine wp_bipush (v := nI 96) d_Mod_init_88 (by decide) ?_
  refine wm_mk (t := 10) (j := 13) (len := 96) (a0 := (96, .inl fun _ => 0)) rfl d_Mod_init_90 d_Mod_init_92 rfl rfl (fun C h9 => by cases h9) wCa_I (fun cA => rfl) (by decide) (by decide) rfl (by decide) wF_Mod_42 rfl rfl rfl (t_Mod 13) (t_Mod_ok 13 (by decide)) (fun q => rfl) (fun q => rfl) hI10 (fun A11 hI11 => ?_)
  refine wp_aload_n d_Mod_init_95 rfl 0 rfl ?_
  refine wp_bipush (v := nI 96) d_Mod_init_96 (by decide) ?_
  refine wm_mk (t := 11) (j := 14) (len := 96) (a0 := (96, .inl fun _ => 0)) rfl d_Mod_init_98 d_Mod_init_100 rfl rfl (fun C h9 => by cases h9) wCa_I (fun cA => rfl) (by decide) (by decide) rfl (by decide) wF_Mod_45 rfl rfl rfl (t_Mod 14) (t_Mod_ok 14 (by decide)) (fun q => rfl) (fun q => rfl) hI11 (fun A12 hI12 => ?_)
  refine wp_aload_n d_Mod_init_103 rfl 0 rfl ?_
  refine wp_sipush (v := nI 201) d_Mod_init_104 (by decide) ?_
  refine wm_mk (t := 12) (j := 16) (len := 201) (a0 := (201, .inl fun _ => 0)) rfl d_Mod_init_107 d_Mod_init_109 rfl rfl (fun C h9 => by cases h9) wCa_I (fun cA => rfl) (by decide) (by decide) rfl (by decide) wF_Mod_48 rfl rfl rfl (t_Mod 16) (t_Mod_ok 16 (by decide)) (fun q => rfl) (fun q => rfl) hI12 (fun A13 hI13 => ?_)
  refine wp_aload_n d_Mod_init_112 rfl 0 rfl ?_
  refine wp_sipush (v := nI 201) d_Mod_init_113 (by decide) ?_
  refine wm_mk (t := 13) (j := 17) (len := 201) (a0 := (201, .inl fun _ => 0)) rfl d_Mod_init_116 d_Mod_init_118 rfl rfl (fun C h9 => by cases h9) wCa_I (fun cA => rfl) (by decide) (by decide) rfl (by decide) wF_Mod_51 rfl rfl rfl (t_Mod 17) (t_Mod_ok 17 (by decide)) (fun q => rfl) (fun q => rfl) hI13 (fun A14 hI14 => ?_)
  refine wp_aload_n d_Mod_init_121 rfl 0 rfl ?_
  refine wp_sipush (v := nI 201) d_Mod_init_122 (by decide) ?_
  refine wm_mk (t := 14) (j := 18) (len := 201) (a0 := (201, .inl fun _ => 0)) rfl d_Mod_init_125 d_Mod_init_127 rfl rfl (fun C h9 => by cases h9) wCa_I (fun cA => rfl) (by decide) (by decide) rfl (by decide) wF_Mod_54 rfl rfl rfl (t_Mod 18) (t_Mod_ok 18 (by decide)) (fun q => rfl) (fun q => rfl) hI14 (fun A15 hI15 => ?_)
  refine wp_aload_n d_Mod_init_130 rfl 0 rfl ?_
  refine wp_sipush (v := nI 201) d_Mod_init_131 (by decide) ?_
  refine wm_mk (t := 15) (j := 19) (len := 201) (a0 := (201, .inl fun _ => 0)) rfl d_Mod_init_134 d_Mod_init_136 rfl rfl (fun C h9 => by cases h9) wCa_I (fun cA => rfl) (by decide) (by decide) rfl (by decide) wF_Mod_57 rfl rfl rfl (t_Mod 19) (t_Mod_ok 19 (by decide)) (fun q => rfl) (fun q => rfl) hI15 (fun A16 hI16 => ?_)
  refine wp_aload_n d_Mod_init_139 rfl 0 rfl ?_
  refine wp_sipush (v := nI 1407) d_Mod_init_140 (by decide) ?_
  refine wm_mk (t := 16) (j := 20) (len := 1407) (a0 := (1407, .inr (.inl fun _ => 0))) rfl d_Mod_init_143 d_Mod_init_145 rfl rfl (fun C h9 => by cases h9) wCa_J (fun cA => rfl) (by decide) (by decide) rfl (by decide) wF_Mod_60 rfl rfl rfl (t_Mod 20) (t_Mod_ok 20 (by decide)) (fun q => rfl) (fun q => rfl) hI16 (fun A17 hI17 => ?_)
  refine wp_aload_n d_Mod_init_148 rfl 0 rfl ?_
  refine wp_sipush (v := nI 201) d_Mod_init_149 (by decide) ?_
  refine wm_mk (t := 17) (j := 21) (len := 201) (a0 := (201, .inl fun _ => 0)) rfl d_Mod_init_152 d_Mod_init_154 rfl rfl (fun C h9 => by cases h9) wCa_I (fun cA => rfl) (by decide) (by decide) rfl (by decide) wF_Mod_63 rfl rfl rfl (t_Mod 21) (t_Mod_ok 21 (by decide)) (fun q => rfl) (fun q => rfl) hI17 (fun A18 hI18 => ?_)
  refine wp_aload_n d_Mod_init_157 rfl 0 rfl ?_
  refine wp_sipush (v := nI 2000) d_Mod_init_158 (by decide) ?_
  refine wm_mk (t := 18) (j := 23) (len := 2000) (a0 := (2000, .inl fun _ => 0)) rfl d_Mod_init_161 d_Mod_init_163 rfl rfl (fun C h9 => by cases h9) wCa_I (fun cA => rfl) (by decide) (by decide) rfl (by decide) wF_Mod_66 rfl rfl rfl (t_Mod 23) (t_Mod_ok 23 (by decide)) (fun q => rfl) (fun q => rfl) hI18 (fun A19 hI19 => ?_)
  refine wp_aload_n d_Mod_init_166 rfl 0 rfl ?_
  refine wp_bipush (v := nI 16) d_Mod_init_167 (by decide) ?_
  refine wm_mk (t := 19) (j := 24) (len := 16) (a0 := (16, .inl fun _ => 0)) rfl d_Mod_init_169 d_Mod_init_171 rfl rfl (fun C h9 => by cases h9) wCa_I (fun cA => rfl) (by decide) (by decide) rfl (by decide) wF_Mod_69 rfl rfl rfl (t_Mod 24) (t_Mod_ok 24 (by decide)) (fun q => rfl) (fun q => rfl) hI19 (fun A20 hI20 => ?_)
  refine wp_aload_n d_Mod_init_174 rfl 0 rfl ?_
  refine wp_bipush (v := nI 16) d_Mod_init_175 (by decide) ?_
  refine wm_mk (t := 20) (j := 25) (len := 16) (a0 := (16, .inl fun _ => 0)) rfl d_Mod_init_177 d_Mod_init_179 rfl rfl (fun C h9 => by cases h9) wCa_I (fun cA => rfl) (by decide) (by decide) rfl (by decide) wF_Mod_72 rfl rfl rfl (t_Mod 25) (t_Mod_ok 25 (by decide)) (fun q => rfl) (fun q => rfl) hI20 (fun A21 hI21 => ?_)
  refine wp_aload_n d_Mod_init_182 rfl 0 rfl ?_
  refine wp_bipush (v := nI 16) d_Mod_init_183 (by decide) ?_
  refine wm_mk (t := 21) (j := 26) (len := 16) (a0 := (16, .inl fun _ => 0)) rfl d_Mod_init_185 d_Mod_init_187 rfl rfl (fun C h9 => by cases h9) wCa_I (fun cA => rfl) (by decide) (by decide) rfl (by decide) wF_Mod_75 rfl rfl rfl (t_Mod 26) (t_Mod_ok 26 (by decide)) (fun q => rfl) (fun q => rfl) hI21 (fun A22 hI22 => ?_)
  refine wp_aload_n d_Mod_init_190 rfl 0 rfl ?_
  refine wp_sipush (v := nI 320) d_Mod_init_191 (by decide) ?_
  refine wm_mk (t := 22) (j := 27) (len := 320) (a0 := (320, .inl fun _ => 0)) rfl d_Mod_init_194 d_Mod_init_196 rfl rfl (fun C h9 => by cases h9) wCa_I (fun cA => rfl) (by decide) (by decide) rfl (by decide) wF_Mod_78 rfl rfl rfl (t_Mod 27) (t_Mod_ok 27 (by decide)) (fun q => rfl) (fun q => rfl) hI22 (fun A23 hI23 => ?_)
  refine wp_aload_n d_Mod_init_199 rfl 0 rfl ?_
  refine wp_bipush (v := nI 16) d_Mod_init_200 (by decide) ?_
  refine wm_mk (t := 23) (j := 28) (len := 16) (a0 := (16, .inl fun _ => 0)) rfl d_Mod_init_202 d_Mod_init_204 rfl rfl (fun C h9 => by cases h9) wCa_I (fun cA => rfl) (by decide) (by decide) rfl (by decide) wF_Mod_81 rfl rfl rfl (t_Mod 28) (t_Mod_ok 28 (by decide)) (fun q => rfl) (fun q => rfl) hI23 (fun A24 hI24 => ?_)
  refine wp_aload_n d_Mod_init_207 rfl 0 rfl ?_
  refine wp_sipush (v := nI 3200) d_Mod_init_208 (by decide) ?_
  refine wm_mk (t := 24) (j := 29) (len := 3200) (a0 := (3200, .inl fun _ => 0)) rfl d_Mod_init_211 d_Mod_init_213 rfl rfl (fun C h9 => by cases h9) wCa_I (fun cA => rfl) (by decide) (by decide) rfl (by decide) wF_Mod_84 rfl rfl rfl (t_Mod 29) (t_Mod_ok 29 (by decide)) (fun q => rfl) (fun q => rfl) hI24 (fun A25 hI25 => ?_)
  refine wp_aload_n d_Mod_init_216 rfl 0 rfl ?_
  refine wp_bipush (v := nI 16) d_Mod_init_217 (by decide) ?_
  refine wm_mk (t := 25) (j := 30) (len := 16) (a0 := (16, .inl fun _ => 0)) rfl d_Mod_init_219 d_Mod_init_221 rfl rfl (fun C h9 => by cases h9) wCa_I (fun cA => rfl) (by decide) (by decide) rfl (by decide) wF_Mod_87 rfl rfl rfl (t_Mod 30) (t_Mod_ok 30 (by decide)) (fun q => rfl) (fun q => rfl) hI25 (fun A26 hI26 => ?_)
  refine wp_aload_n d_Mod_init_224 rfl 0 rfl ?_
  refine wp_bipush (v := nI 16) d_Mod_init_225 (by decide) ?_
  refine wm_mk (t := 26) (j := 31) (len := 16) (a0 := (16, .inl fun _ => 0)) rfl d_Mod_init_227 d_Mod_init_229 rfl rfl (fun C h9 => by cases h9) wCa_I (fun cA => rfl) (by decide) (by decide) rfl (by decide) wF_Mod_90 rfl rfl rfl (t_Mod 31) (t_Mod_ok 31 (by decide)) (fun q => rfl) (fun q => rfl) hI26 (fun A27 hI27 => ?_)
  refine wp_aload_n d_Mod_init_232 rfl 0 rfl ?_
  refine wp_bipush (v := nI 16) d_Mod_init_233 (by decide) ?_
  refine wm_mk (t := 27) (j := 32) (len := 16) (a0 := (16, .inl fun _ => 0)) rfl d_Mod_init_235 d_Mod_init_237 rfl rfl (fun C h9 => by cases h9) wCa_Z (fun cA => rfl) (by decide) (by decide) rfl (by decide) wF_Mod_93 rfl rfl rfl (t_Mod 32) (t_Mod_ok 32 (by decide)) (fun q => rfl) (fun q => rfl) hI27 (fun A28 hI28 => ?_)
  refine wp_aload_n d_Mod_init_240 rfl 0 rfl ?_
  refine wp_bipush (v := nI 6) d_Mod_init_241 (by decide) ?_
  refine wm_mk (t := 28) (j := 33) (len := 6) (a0 := (6, .inl fun _ => 0)) rfl d_Mod_init_243 d_Mod_init_245 rfl rfl (fun C h9 => by cases h9) wCa_I (fun cA => rfl) (by decide) (by decide) rfl (by decide) wF_Mod_96 rfl rfl rfl (t_Mod 33) (t_Mod_ok 33 (by decide)) (fun q => rfl) (fun q => rfl) hI28 (fun A29 hI29 => ?_)
  refine wp_aload_n d_Mod_init_248 rfl 0 rfl ?_
  refine wp_bipush (v := nI 6) d_Mod_init_249 (by decide) ?_
  refine wm_mk (t := 29) (j := 34) (len := 6) (a0 := (6, .inl fun _ => 0)) rfl d_Mod_init_251 d_Mod_init_253 rfl rfl (fun C h9 => by cases h9) wCa_I (fun cA => rfl) (by decide) (by decide) rfl (by decide) wF_Mod_99 rfl rfl rfl (t_Mod 34) (t_Mod_ok 34 (by decide)) (fun q => rfl) (fun q => rfl) hI29 (fun A30 hI30 => ?_)
  refine wp_aload_n d_Mod_init_256 rfl 0 rfl ?_
  refine wp_bipush (v := nI 6) d_Mod_init_257 (by decide) ?_
  refine wm_mk (t := 30) (j := 35) (len := 6) (a0 := (6, .inl fun _ => 0)) rfl d_Mod_init_259 d_Mod_init_261 rfl rfl (fun C h9 => by cases h9) wCa_I (fun cA => rfl) (by decide) (by decide) rfl (by decide) wF_Mod_102 rfl rfl rfl (t_Mod 35) (t_Mod_ok 35 (by decide)) (fun q => rfl) (fun q => rfl) hI30 (fun A31 hI31 => ?_)
  refine wp_aload_n d_Mod_init_264 rfl 0 rfl ?_
  refine wp_sipush (v := nI 1200) d_Mod_init_265 (by decide) ?_
  refine wm_mk (t := 31) (j := 36) (len := 1200) (a0 := (1200, .inl fun _ => 0)) rfl d_Mod_init_268 d_Mod_init_270 rfl rfl (fun C h9 => by cases h9) wCa_I (fun cA => rfl) (by decide) (by decide) rfl (by decide) wF_Mod_105 rfl rfl rfl (t_Mod 36) (t_Mod_ok 36 (by decide)) (fun q => rfl) (fun q => rfl) hI31 (fun A32 hI32 => ?_)
  refine wp_aload_n d_Mod_init_273 rfl 0 rfl ?_
  refine wp_bipush (v := nI 9) d_Mod_init_274 (by decide) ?_
  refine wm_mk (t := 32) (j := 42) (len := 9) (a0 := (9, .inl fun _ => 0)) rfl d_Mod_init_276 d_Mod_init_278 rfl rfl (fun C h9 => by cases h9) wCa_I (fun cA => rfl) (by decide) (by decide) rfl (by decide) wF_Mod_108 rfl rfl rfl (t_Mod 42) (t_Mod_ok 42 (by decide)) (fun q => rfl) (fun q => rfl) hI32 (fun A33 hI33 => ?_)
  exact wp_vret d_Mod_init_281 rfl ⟨rfl, A33, hI33, hMp_33⟩
end MInit
