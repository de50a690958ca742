section Cls1
theorem wE_Net_43 : GoodIn lw_tbl [Cond.classLink "TextNet" 43 (excN 0), .initialized (excN 0)] := goodIn_r _ [198, 47] (by decide +kernel) (by decide +kernel)
theorem th_Net_47 : thOK "TextNet" 47 0 := ⟨by decide +kernel, by decide +kernel⟩
theorem wE_Net_82 : GoodIn lw_tbl [Cond.classLink "TextNet" 82 (excN 1), .initialized (excN 1)] := goodIn_r _ [390, 52] (by decide +kernel) (by decide +kernel)
theorem th_Net_86 : thOK "TextNet" 86 1 := ⟨by decide +kernel, by decide +kernel⟩
theorem wE_Lin_30 : GoodIn lw_tbl [Cond.classLink "TextNet$Line" 30 (excN 0), .initialized (excN 0)] := goodIn_r _ [767, 47] (by decide +kernel) (by decide +kernel)
theorem th_Lin_34 : thOK "TextNet$Line" 34 0 := ⟨by decide +kernel, by decide +kernel⟩
theorem wO_4 : Cond.arrayOver (.object "TextNet$CopyList") ∈ lw_tbl := List.mem_of_getElem? (i := 278) (by decide +kernel)
theorem wO_5 : Cond.arrayOver (.object "TextNet$Frame") ∈ lw_tbl := List.mem_of_getElem? (i := 289) (by decide +kernel)
theorem wO_6 : Cond.arrayOver (.object "TextNet$Entry") ∈ lw_tbl := List.mem_of_getElem? (i := 115) (by decide +kernel)
theorem wO_7 : Cond.arrayOver (.object "TextNet$Message") ∈ lw_tbl := List.mem_of_getElem? (i := 108) (by decide +kernel)
theorem wO_8 : Cond.arrayOver (.object "TextNet$Switch") ∈ lw_tbl := List.mem_of_getElem? (i := 104) (by decide +kernel)
theorem wO_9 : Cond.arrayOver (.object "TextNet$Line") ∈ lw_tbl := List.mem_of_getElem? (i := 106) (by decide +kernel)
theorem wp_toV {G : Gt} {y : Mi} {B : Bt} {pc : Nat} {lv : List (Nat × Value)} {st : List Value} {h : AHp} {k n : Nat} {x z : Value} (hx : x = z) (kk : WP G y B pc lv (z :: st) h k n) : WP G y B pc lv (x :: st) h k n := by rw [hx]; exact kk
theorem wp_toVR {G : Gt} {y : Mi} {B : Bt} {pc : Nat} {lv : List (Nat × Value)} {st : List Value} {h : AHp} {k n : Nat} {x o : Option Nat} {z : Value} (hx : x = o) (hz : va_rf o = z) (kk : WP G y B pc lv (z :: st) h k n) : WP G y B pc lv (va_rf x :: st) h k n := by rw [hx, hz]; exact kk
theorem fitB (b : Bool) : fits .boolean (.int (bI b)) = true := by cases b <;> rfl
/-- the call throws x and leaves a world with P -/
def CallT (G : Gt) (y : Mi) (d w : Nat) (av : List Value) (h : AHp) (k n x : Nat) (P : AHp → Prop) : Prop := CallS G y d w av h k n (fun r h' => r = .inr x ∧ P h')
theorem wp_callT {G : Gt} {y y' : Mi} {B : Bt} {pc : Nat} {lv : List (Nat × Value)} {st rest av : List Value} {h : AHp} {k n d' w' r na k' n' x : Nat} {ig : Instr} {P : AHp → Prop} (hd : decode (mB y) pc = .ok (ig, 3)) (hL : Link G y B pc st rest av y' h) (hc : mCal y' na) (hm0 : mH y = []) (hC : CallT G y' d' w' av h k' n' x P) (hr8 : (rest.map fun v => v.category).sum ≤ r) (hdep : d' + 1 ≤ Bd B ∧ r + (mL y' + 11) + w' ≤ Bw B) (hq : ∀ h', P h' → BQ B (.inr x) h') : WP G y B pc lv st h (k + k') (n + n') := by
  refine wp_call hd hL hc hC hr8 hdep (fun v h' hq' => ?_) (fun x' h' hq' => ?_)
  · cases hq'.1
  · obtain ⟨h2, h3⟩ := hq'
    cases h2
    exact ⟨hm0, hq h' h3⟩
set_option maxRecDepth 20000 in
theorem c_Net_isLetter {G : Gt}  {h : AHp} (x : Int32) : CallR G m_Net_isLetter 0 0 [.int x] h 0 0 (some (.int (bI (inZ x (nI 65) (nI 90))))) h := by
  refine CallS.of (Nat.le_of_ble_eq_true rfl) ?_
  refine wp_iload_n d_Net_isLetter_0 rfl 0 rfl ?_
  refine wp_bipush (v := nI 65) d_Net_isLetter_1 (by decide) ?_
  refine wp_icmp_lt (tgt := 16) d_Net_isLetter_3 (by decide) (fun c3 => ?_) (fun c3 => ?_)
  · refine wp_iconst (v := nI 0) d_Net_isLetter_16 (by decide) ?_
    exact wp_zret (ty := .boolean) d_Net_isLetter_17 rfl rfl ⟨resI (bI_zero (by first | exact inZ_f2 c9 | exact inZ_f1 c3)), rfl⟩
  · refine wp_iload_n d_Net_isLetter_6 rfl 0 rfl ?_
    refine wp_bipush (v := nI 90) d_Net_isLetter_7 (by decide) ?_
    refine wp_icmp_gt (tgt := 16) d_Net_isLetter_9 (by decide) (fun c9 => ?_) (fun c9 => ?_)
    · refine wp_iconst (v := nI 0) d_Net_isLetter_16 (by decide) ?_
      exact wp_zret (ty := .boolean) d_Net_isLetter_17 rfl rfl ⟨resI (bI_zero (by first | exact inZ_f2 c9 | exact inZ_f1 c3)), rfl⟩
    · refine wp_iconst (v := nI 1) d_Net_isLetter_12 (by decide) ?_
      refine wp_goto (tgt := 17) d_Net_isLetter_13 (by decide) ?_
      exact wp_zret (ty := .boolean) d_Net_isLetter_17 rfl rfl ⟨resI (bI_one (inZ_t c3 c9)), rfl⟩
set_option maxRecDepth 20000 in
theorem c_Net_isDigit {G : Gt}  {h : AHp} (x : Int32) : CallR G m_Net_isDigit 0 0 [.int x] h 0 0 (some (.int (bI (inZ x (nI 48) (nI 57))))) h := by
  refine CallS.of (Nat.le_of_ble_eq_true rfl) ?_
  refine wp_iload_n d_Net_isDigit_0 rfl 0 rfl ?_
  refine wp_bipush (v := nI 48) d_Net_isDigit_1 (by decide) ?_
  refine wp_icmp_lt (tgt := 16) d_Net_isDigit_3 (by decide) (fun c3 => ?_) (fun c3 => ?_)
  · refine wp_iconst (v := nI 0) d_Net_isDigit_16 (by decide) ?_
    exact wp_zret (ty := .boolean) d_Net_isDigit_17 rfl rfl ⟨resI (bI_zero (by first | exact inZ_f2 c9 | exact inZ_f1 c3)), rfl⟩
  · refine wp_iload_n d_Net_isDigit_6 rfl 0 rfl ?_
    refine wp_bipush (v := nI 57) d_Net_isDigit_7 (by decide) ?_
    refine wp_icmp_gt (tgt := 16) d_Net_isDigit_9 (by decide) (fun c9 => ?_) (fun c9 => ?_)
    · refine wp_iconst (v := nI 0) d_Net_isDigit_16 (by decide) ?_
      exact wp_zret (ty := .boolean) d_Net_isDigit_17 rfl rfl ⟨resI (bI_zero (by first | exact inZ_f2 c9 | exact inZ_f1 c3)), rfl⟩
    · refine wp_iconst (v := nI 1) d_Net_isDigit_12 (by decide) ?_
      refine wp_goto (tgt := 17) d_Net_isDigit_13 (by decide) ?_
      exact wp_zret (ty := .boolean) d_Net_isDigit_17 rfl rfl ⟨resI (bI_one (inZ_t c3 c9)), rfl⟩
set_option maxRecDepth 20000 in
theorem c_Net_serialBehind {G : Gt}  {h : AHp} {x : Nat} (hx : 1 ≤ x ∧ x ≤ 999) : CallR G m_Net_serialBehind 0 0 [.int (nI x)] h 0 0 (some (.int (nI (x % 999 + 1)))) h := by
  refine CallS.of (Nat.le_of_ble_eq_true rfl) ?_
  refine wp_iload_n d_Net_serialBehind_0 rfl 0 rfl ?_
  refine wp_sipush (v := nI 999) d_Net_serialBehind_1 (by decide) ?_
  refine wp_neN (tgt := 11) d_Net_serialBehind_4 (by decide) (by omega) (by omega) (fun c4 => ?_) (fun c4 => ?_)
  · refine wp_iload_n d_Net_serialBehind_11 rfl 0 rfl ?_
    refine wp_iconst (v := nI 1) d_Net_serialBehind_12 (by decide) ?_
    refine wp_iaddN d_Net_serialBehind_13 ?_
    exact wp_iret d_Net_serialBehind_14 rfl ⟨resI (congrArg nI (by omega)), rfl⟩
  · refine wp_iconst (v := nI 1) d_Net_serialBehind_7 (by decide) ?_
    refine wp_goto (tgt := 14) d_Net_serialBehind_8 (by decide) ?_
    exact wp_iret d_Net_serialBehind_14 rfl ⟨resI (congrArg nI (by omega)), rfl⟩
set_option maxRecDepth 20000 in
theorem c_Net_serialAhead {G : Gt}  {h : AHp} {x : Nat} (hx : 1 ≤ x ∧ x ≤ 999) : CallR G m_Net_serialAhead 0 0 [.int (nI x)] h 0 0 (some (.int (nI ((x + 997) % 999 + 1)))) h := by
  refine CallS.of (Nat.le_of_ble_eq_true rfl) ?_
  refine wp_iload_n d_Net_serialAhead_0 rfl 0 rfl ?_
  refine wp_iconst (v := nI 1) d_Net_serialAhead_1 (by decide) ?_
  refine wp_neN (tgt := 11) d_Net_serialAhead_2 (by decide) (by omega) (by omega) (fun c2 => ?_) (fun c2 => ?_)
  · refine wp_iload_n d_Net_serialAhead_11 rfl 0 rfl ?_
    refine wp_iconst (v := nI 1) d_Net_serialAhead_12 (by decide) ?_
    refine wp_isubN d_Net_serialAhead_13 (by omega) ?_
    exact wp_iret d_Net_serialAhead_14 rfl ⟨resI (congrArg nI (by omega)), rfl⟩
  · refine wp_sipush (v := nI 999) d_Net_serialAhead_5 (by decide) ?_
    refine wp_goto (tgt := 14) d_Net_serialAhead_8 (by decide) ?_
    exact wp_iret d_Net_serialAhead_14 rfl ⟨resI (congrArg nI (by omega)), rfl⟩
end Cls1
