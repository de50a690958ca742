section Start
theorem kn_arr {args : Array Value} {s : State} {ty : FieldType} (h : (Cond.arrayClass ty).before args s = true) : ∃ cA : ClassId, ArrOfT s cA ty ∧ s.vm.findClass ("[" ++ ty.toString) = some cA := by
  obtain ⟨cA, kA, comp, h1, h2, h3⟩ := Cond.arrayClass_spec (first := s) (o := none) (idx := []) h
  exact ⟨cA, fun n z => ⟨fun k h => (by cases h), kA, h2, comp, h3⟩, h1⟩
theorem kn_obj {args : Array Value} {s : State} {C : String} (h : (Cond.arrayOver (.object C)).before args s = true) : ∃ cA : ClassId, ArrOfT s cA (.object C) ∧ va_RA s cA (.object C) := by
  obtain ⟨comp, cA, kA, h1, -, h2, h3, h4⟩ := Cond.arrayOver_spec (first := s) (o := none) (idx := []) h
  exact ⟨cA, fun n z => ⟨fun k h => (by cases h), kA, h2, comp, h3⟩, kA, comp, h2, h3, h1, h4⟩
theorem kn_cls {args : Array Value} {s : State} {C : String} {T : u_T} {N : Nat} (hts : ∀ w ∈ lw_tbl, w.before args s = true) (g : GoodIn lw_tbl (u_ws C T N)) (hi : Cond.instantiable C N ∈ lw_tbl) : ∃ (cC : ClassId) (iS : Nat → Nat), ∀ q : vw_C, some (C, T, N) = some q → u_Kn s q.1 q.2.1 q.2.2 cC iS := by
  obtain ⟨cC, iS, h⟩ := u_known (C := C) (T := T) (N := N) (n := N) (ws := u_ws C T N) (fun w hw => hts w (g w hw).1) (fun w h => h) (hts _ hi)
  exact ⟨cC, iS, fun q hq => by cases hq; exact h⟩
theorem wi_Net : Cond.instantiable R_Net 7 ∈ lw_tbl := by decide +kernel
theorem wi_Chn : Cond.instantiable R_Chn 7 ∈ lw_tbl := by decide +kernel
theorem wi_Cpy : Cond.instantiable R_Cpy 4 ∈ lw_tbl := by decide +kernel
theorem wi_Lst : Cond.instantiable R_Lst 3 ∈ lw_tbl := by decide +kernel
theorem wi_Drf : Cond.instantiable R_Drf 7 ∈ lw_tbl := by decide +kernel
theorem wi_Ent : Cond.instantiable R_Ent 4 ∈ lw_tbl := by decide +kernel
theorem wi_Frm : Cond.instantiable R_Frm 3 ∈ lw_tbl := by decide +kernel
theorem wi_Frs : Cond.instantiable R_Frs 3 ∈ lw_tbl := by decide +kernel
theorem wi_Lin : Cond.instantiable R_Lin 5 ∈ lw_tbl := by decide +kernel
theorem wi_Msg : Cond.instantiable R_Msg 5 ∈ lw_tbl := by decide +kernel
theorem wi_Swt : Cond.instantiable R_Swt 8 ∈ lw_tbl := by decide +kernel
theorem wi_Mod : Cond.instantiable R_Mod 43 ∈ lw_tbl := by decide +kernel
theorem kn_D {args : Array Value} {s : State} (hts : ∀ w ∈ lw_tbl, w.before args s = true) (c : Nat) : ∃ (cC : ClassId) (iS : Nat → Nat), ∀ q : vw_C, vwCl[c]? = some q → u_Kn s q.1 q.2.1 q.2.2 cC iS := by
  match c with
  | 0 => exact kn_cls hts g_Net wi_Net
  | 1 => exact kn_cls hts g_Chn wi_Chn
  | 2 => exact kn_cls hts g_Cpy wi_Cpy
  | 3 => exact kn_cls hts g_Lst wi_Lst
  | 4 => exact kn_cls hts g_Drf wi_Drf
  | 5 => exact kn_cls hts g_Ent wi_Ent
  | 6 => exact kn_cls hts g_Frm wi_Frm
  | 7 => exact kn_cls hts g_Frs wi_Frs
  | 8 => exact kn_cls hts g_Lin wi_Lin
  | 9 => exact kn_cls hts g_Msg wi_Msg
  | 10 => exact kn_cls hts g_Swt wi_Swt
  | 11 => exact kn_cls hts g_Mod wi_Mod
  | c + 12 =>
    obtain ⟨cC, iS, -⟩ := kn_cls hts g_Net wi_Net
    refine ⟨cC, iS, fun q hq => ?_⟩
    rw [List.getElem?_eq_none (show vwCl.length ≤ c + 12 from Nat.le_add_left 12 c)] at hq
    cases hq
theorem kn_A {args : Array Value} {s : State} (hts : ∀ w ∈ lw_tbl, w.before args s = true) (t : Nat) : ∃ cA : ClassId, t < 10 → ArrOfT s cA (aTy.getD t .int) ∧ va_RA s cA (aTy.getD t .int) := by
  match t with
  | 0 =>
    obtain ⟨cA, h1, h2⟩ := kn_arr (hts _ (wCa_I _ List.mem_cons_self).1)
    exact ⟨cA, fun _ => ⟨h1, h2⟩⟩
  | 1 =>
    obtain ⟨cA, h1, h2⟩ := kn_arr (hts _ (wCa_J _ List.mem_cons_self).1)
    exact ⟨cA, fun _ => ⟨h1, h2⟩⟩
  | 2 =>
    obtain ⟨cA, h1, h2⟩ := kn_arr (hts _ (wCa_B _ List.mem_cons_self).1)
    exact ⟨cA, fun _ => ⟨h1, h2⟩⟩
  | 3 =>
    obtain ⟨cA, h1, h2⟩ := kn_arr (hts _ (wCa_Z _ List.mem_cons_self).1)
    exact ⟨cA, fun _ => ⟨h1, h2⟩⟩
  | 4 =>
    obtain ⟨cA, h1, h2⟩ := kn_obj (hts _ wO_4)
    exact ⟨cA, fun _ => ⟨h1, h2⟩⟩
  | 5 =>
    obtain ⟨cA, h1, h2⟩ := kn_obj (hts _ wO_5)
    exact ⟨cA, fun _ => ⟨h1, h2⟩⟩
  | 6 =>
    obtain ⟨cA, h1, h2⟩ := kn_obj (hts _ wO_6)
    exact ⟨cA, fun _ => ⟨h1, h2⟩⟩
  | 7 =>
    obtain ⟨cA, h1, h2⟩ := kn_obj (hts _ wO_7)
    exact ⟨cA, fun _ => ⟨h1, h2⟩⟩
  | 8 =>
    obtain ⟨cA, h1, h2⟩ := kn_obj (hts _ wO_8)
    exact ⟨cA, fun _ => ⟨h1, h2⟩⟩
  | 9 =>
    obtain ⟨cA, h1, h2⟩ := kn_obj (hts _ wO_9)
    exact ⟨cA, fun _ => ⟨h1, h2⟩⟩
  | t + 10 =>
    obtain ⟨cA, h1, h2⟩ := kn_arr (hts _ (wCa_I _ List.mem_cons_self).1)
    exact ⟨cA, fun h => absurd h (by omega)⟩
theorem kn_K {args : Array Value} {s : State} (hts : ∀ w ∈ lw_tbl, w.before args s = true) : ∃ (D : va_G) (dA : Nat → ClassId), va_K D vwCl (aTys dA) s := by
  have hD : ∃ f : Nat → ClassId × (Nat → Nat), ∀ (c : Nat) (q : vw_C), vwCl[c]? = some q → u_Kn s q.1 q.2.1 q.2.2 (f c).1 (f c).2 :=
    ⟨fun c => (Classical.choose (kn_D hts c), Classical.choose (Classical.choose_spec (kn_D hts c))), fun c => Classical.choose_spec (Classical.choose_spec (kn_D hts c))⟩
  have hA : ∃ dA : Nat → ClassId, ∀ t, t < 10 → ArrOfT s (dA t) (aTy.getD t .int) ∧ va_RA s (dA t) (aTy.getD t .int) :=
    ⟨fun t => Classical.choose (kn_A hts t), fun t => Classical.choose_spec (kn_A hts t)⟩
  obtain ⟨f, hf⟩ := hD
  obtain ⟨dA, ha⟩ := hA
  refine ⟨(fun c => (f c).1, fun c => (f c).2), dA, hf, fun k q hk => ?_⟩
  rw [aTys, List.getElem?_map] at hk
  by_cases h : k < 10
  · rw [List.getElem?_range (show k < aTy.length from h)] at hk
    cases hk
    exact ha k h
  · rw [List.getElem?_eq_none (by rw [List.length_range]; exact Nat.le_of_not_lt h)] at hk
    cases hk
theorem kn_low {s : State} (a : Nat) (h1 : a < s.heap.size) : ¬ (fun q => s.heap.size ≤ q) a := fun h2 => absurd h1 (Nat.not_lt.mpr h2)
theorem kn_U {b : Nat} {s : State} (hts : ∀ w ∈ lw_tbl, w.before #[Value.ref b] s = true) (hgv : (Jvm.Cond.and given_1 narrow_1).before #[Value.ref b] s = true) : vx_Zq Bundle.tN "UNASSIGNED_STACK" Bundle.steD (fun q => s.heap.size ≤ q) s s.heap :=
  vx_Zqof (hts _ (by decide +kernel)) (hts _ (by decide +kernel)) (flat_of_before _ hgv _ (by decide +kernel)) kn_low
theorem kn_S {b : Nat} {s : State} (hts : ∀ w ∈ lw_tbl, w.before #[Value.ref b] s = true) (hgv : (Jvm.Cond.and given_1 narrow_1).before #[Value.ref b] s = true) : vx_Zq Bundle.tN "SUPPRESSED_SENTINEL" Bundle.listD (fun q => s.heap.size ≤ q) s s.heap :=
  vx_Zqof (hts _ (by decide +kernel)) (hts _ (by decide +kernel)) (flat_of_before _ hgv _ (by decide +kernel)) kn_low
theorem kn_N {b : Nat} {s : State} (hgv : (Jvm.Cond.and given_1 narrow_1).before #[Value.ref b] s = true) : va_Nc (excN 1) (excN 0) s :=
  va_Nc.of (args := #[Value.ref b]) (flat_of_before _ hgv _ (by decide +kernel))
theorem kn_C {b : Nat} {s : State} (hts : ∀ w ∈ lw_tbl, w.before #[Value.ref b] s = true) (hgv : (Jvm.Cond.and given_1 narrow_1).before #[Value.ref b] s = true) : va_Z "java/lang/String" "COMPACT_STRINGS" "Z" (.int 1) (fun q => s.heap.size ≤ q) s s.heap :=
  va_Zof (args := #[Value.ref b]) (hts _ (by decide +kernel)) (hts _ (by decide +kernel)) (va_eqi (flat_of_before _ hgv _ (by decide +kernel))) kn_low
theorem kn_F {b : Nat} {s : State} (hts : ∀ w ∈ lw_tbl, w.before #[Value.ref b] s = true) (hgv : (Jvm.Cond.and given_1 narrow_1).before #[Value.ref b] s = true) : va_Zq "jdk/internal/util/Preconditions" "SIOOBE_FORMATTER" "Ljava/util/function/BiFunction;" (fun q => s.heap.size ≤ q) s s.heap :=
  va_Zqof (args := #[Value.ref b]) (hts _ (by decide +kernel)) (hts _ (by decide +kernel)) (flat_of_before _ hgv _ (by decide +kernel)) kn_low
/-- what the Statement says of a String of the class's pool: its kind, its coder, its bytes -/
def strC (own : String) (idx : Nat) (bs : List Nat) : List Cond :=
  .exactly (.string own idx) "java/lang/String" :: .eq (.field (.string own idx) "java/lang/String" "coder" "B") (.int 0) :: .arrayOf (.field (.string own idx) "java/lang/String" "value" "[B") .byte ::
    .eq (.length (.field (.string own idx) "java/lang/String" "value" "[B")) (.int (nI bs.length)) :: (List.range bs.length).map fun j => .eq (.elem (.field (.string own idx) "java/lang/String" "value" "[B") (.int (nI j))) (.int (nI (bs.getD j 0)))
theorem str_of {args : Array Value} {s : State} {own tx : String} {idx : Nat} {bs : List Nat} (h : ∀ w ∈ strC own idx bs, w.before args s = true) (hr : (Cond.stringRef own idx tx).before args s = true) (hb : bs.length < 2 ^ 31) : ∃ a : Nat, vk_R own idx tx a s ∧ strOK s a bs := by
  have h0 := h _ List.mem_cons_self
  obtain ⟨a, -, -, -, ha, -⟩ := Cond.exactly_spec (args := args) (first := s) (o := none) (s := s) (idx := []) h0
  have h1 := h _ (List.mem_cons_of_mem _ List.mem_cons_self)
  have h2 := h _ (List.mem_cons_of_mem _ (List.mem_cons_of_mem _ List.mem_cons_self))
  have h3 := h _ (List.mem_cons_of_mem _ (List.mem_cons_of_mem _ (List.mem_cons_of_mem _ List.mem_cons_self)))
  have h4 : ∀ j : Nat, j < bs.length → (Cond.eq (.elem (.field (.string own idx) "java/lang/String" "value" "[B") (.int (nI j))) (.int (nI (bs.getD j 0)))).before args s = true := fun j hj =>
    h _ (List.mem_cons_of_mem _ (List.mem_cons_of_mem _ (List.mem_cons_of_mem _ (List.mem_cons_of_mem _ (List.mem_map.mpr ⟨j, List.mem_range.mpr hj, rfl⟩)))))
  obtain ⟨v, hv, hT⟩ := va_Tof (N := bs.length) (f := fun j => .int (nI (bs.getD j 0))) hb h2 (va_eqt h3) (fun j hj => va_eqt (h4 j hj)) (kn_low (s := s))
  exact ⟨a, vk_R.of hr ha, va_Oof h0 ha kn_low, vk_OFof ha (va_eqt h1) kn_low, v, vk_OFof ha hv kn_low, hT⟩
theorem str_in {b : Nat} {s : State} {own tx : String} {idx : Nat} (bs : List Nat) (i n : Nat) (hts : ∀ w ∈ lw_tbl, w.before #[Value.ref b] s = true) (hgv : (Jvm.Cond.and given_1 narrow_1).before #[Value.ref b] s = true) (hi : strC own idx bs = ((Jvm.Free.XT.flat (Jvm.Cond.and given_1 narrow_1)).drop i).take n) (hr : Cond.stringRef own idx tx ∈ lw_tbl) (he : tx.toList.map Char.toNat = bs) (hb : bs.length < 2 ^ 31) : ∃ a : Nat, vk_R own idx tx a s ∧ strOK s a (tx.toList.map Char.toNat) := by
  rw [he]
  refine str_of (args := #[Value.ref b]) (fun w hw => flat_of_before _ hgv w ?_) (hts _ hr) hb
  rw [hi] at hw
  exact List.mem_of_mem_drop (List.mem_of_mem_take hw)
def strN (w : Cond) : Option (String × Nat × String) := match w with
  | .stringRef own idx tx => some (own, idx, tx)
  | _ => none
end Start
