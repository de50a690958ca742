section Mod3
/-- the text that is judged: bytes t, ln of them -/
def Jt (t : Nat → Nat) (ln : Nat) (Fi : Nat → Int32) (M : Nat → Nat → Int32) : Prop := ln ≤ 1600 ∧ Fi 39 = nI ln ∧ (∀ p, p < 1600 → M 5 p = nI (t p)) ∧ ∀ p, t p < 256
def gv (t : Nat → Nat) (ln p : Nat) : Int := if p < ln then (t p : Int) else -1
def gI (t : Nat → Nat) (ln p : Nat) : Int32 := Int32.ofInt (gv t ln p)
theorem gI_in {t : Nat → Nat} {ln p : Nat} (h : p < ln) : nI (t p) = gI t ln p := by
  unfold gI gv
  rw [if_pos h]
  apply Int32.toBitVec_inj.1
  simp [nI]
theorem gI_out {t : Nat → Nat} {ln p : Nat} (h : ln ≤ p) : (-1 : Int32) = gI t ln p := by
  unfold gI gv
  rw [if_neg (by omega)]
  rfl
theorem gv_rng {t : Nat → Nat} (ht : ∀ p, t p < 256) (ln p : Nat) : -1 ≤ gv t ln p ∧ gv t ln p < 256 := by
  unfold gv
  have := ht p
  split <;> omega
theorem gI_toInt {t : Nat → Nat} (ht : ∀ p, t p < 256) (ln p : Nat) : (gI t ln p).toInt = gv t ln p := by
  have := gv_rng ht ln p
  unfold gI
  exact Int32.toInt_ofInt_of_le (by omega) (by omega)
theorem gI_eq {t : Nat → Nat} (ht : ∀ p, t p < 256) (ln p : Nat) {c : Nat} (hc : c < 2 ^ 31) : gI t ln p = nI c ↔ gv t ln p = (c : Int) := by
  rw [← Int32.toInt_inj, gI_toInt ht, nI_toInt hc]
theorem gI_gI {t : Nat → Nat} (ht : ∀ p, t p < 256) (ln p q : Nat) : gI t ln p = gI t ln q ↔ gv t ln p = gv t ln q := by
  rw [← Int32.toInt_inj, gI_toInt ht, gI_toInt ht]
theorem inZ_g {t : Nat → Nat} (ht : ∀ p, t p < 256) (ln p : Nat) {lo hi : Nat} (h1 : lo < 2 ^ 31) (h2 : hi < 2 ^ 31) : inZ (gI t ln p) (nI lo) (nI hi) = decide ((lo : Int) ≤ gv t ln p ∧ gv t ln p ≤ (hi : Int)) := by
  unfold inZ
  simp only [Int32.le_iff_toInt_le, gI_toInt ht, nI_toInt h1, nI_toInt h2]
/-- what a step of the judge leaves in the fields: the place, or the fault and its rule -/
def RP (res : PR Nat) (Fi Fi' : Nat → Int32) : Prop := (∀ j, j ≠ 37 → j ≠ 38 → j ≠ 40 → Fi' j = Fi j) ∧ (∀ b, res = .inl b → Fi' 40 = nI b) ∧ ∀ f, res = .inr f → Fi' 37 = nI f.1 ∧ Fi' 38 = nI f.2
theorem RP_no {Fi : Nat → Int32} {a r : Nat} : RP (.inr (a, r)) Fi (va_up (va_up Fi 37 (nI a)) 38 (nI r)) := by
  refine ⟨fun j h1 h2 h3 => by simp [va_up, h1, h2], fun b hb => (by cases hb), fun f hf => ?_⟩
  cases hf
  exact ⟨by simp [va_up], by simp [va_up]⟩
theorem RP_ok {Fi : Nat → Int32} {a : Nat} : RP (.inl a) Fi (va_up Fi 40 (nI a)) := by
  refine ⟨fun j h1 h2 h3 => by simp [va_up, h3], fun b hb => ?_, fun f hf => (by cases hf)⟩
  cases hb
  simp [va_up]
theorem RP.trans {res : PR Nat} {Fi Fi1 Fi2 : Nat → Int32} (h1 : ∀ j, j ≠ 37 → j ≠ 38 → j ≠ 40 → Fi1 j = Fi j) (h2 : RP res Fi1 Fi2) : RP res Fi Fi2 :=
  ⟨fun j a b c => (h2.1 j a b c).trans (h1 j a b c), h2.2⟩
set_option maxRecDepth 20000 in
theorem c_Mod_here {G : Gt} {o : Nat} {A : Nat → Nat} {Fi : Nat → Int32} {M : Nat → Nat → Int32} {Ml : Nat → Nat → Int64} {t : Nat → Nat} {ln : Nat} (hI : mInj o A) (hJ : Jt t ln Fi M) {p : Nat} (hp : p < 2 ^ 31) : CallR G m_Mod_here 0 0 [.ref o, .int (nI p)] (hM o A Fi M Ml) 0 0 (some (.int (gI t ln p))) (hM o A Fi M Ml) := by
  refine CallS.of (Nat.le_of_ble_eq_true rfl) ?_
  have hln := hJ.1
  refine wp_iload_n d_Mod_here_0 rfl 1 rfl ?_
  refine wp_aload_n d_Mod_here_1 rfl 0 rfl ?_
  refine wm_get d_Mod_here_2 39 (by decide) wF_Mod_142 rfl ?_
  refine wp_toI (z := (nI ln)) (hJ.2.1) ?_
  refine wp_geN (tgt := 17) d_Mod_here_5 (by decide) (by omega) (by omega) (fun c5 => ?_) (fun c5 => ?_)
  · refine wp_iconst (v := -1) d_Mod_here_17 (by decide) ?_
    exact wp_iret d_Mod_here_18 rfl ⟨resI (gI_out c5), rfl⟩
  · refine wp_aload_n d_Mod_here_8 rfl 0 rfl ?_
    refine wm_get d_Mod_here_9 5 (by decide) wF_Mod_16 rfl ?_
    refine wp_iload_n d_Mod_here_12 rfl 1 rfl ?_
    refine wm_ild (j := 5) (x := (nI (t p))) d_Mod_here_13 hI (by decide) (by decide) (by show _ < 1600; omega) (by decide) (hJ.2.2.1 p (by have := hJ.1; omega)) ?_
    refine wp_goto (tgt := 18) d_Mod_here_14 (by decide) ?_
    exact wp_iret d_Mod_here_18 rfl ⟨resI (gI_in c5), rfl⟩
set_option maxRecDepth 20000 in
theorem c_Mod_breaks {G : Gt} {o : Nat} {A : Nat → Nat} {Fi : Nat → Int32} {M : Nat → Nat → Int32} {Ml : Nat → Nat → Int64} (x z : Int32) : CallR G m_Mod_breaks 0 0 [.ref o, .int x, .int z] (hM o A Fi M Ml) 0 0 (some (.int (nI 0))) (hM o A (va_up (va_up Fi 37 x) 38 z) M Ml) := by
  refine CallS.of (Nat.le_of_ble_eq_true rfl) ?_
  refine wp_aload_n d_Mod_breaks_0 rfl 0 rfl ?_
  refine wp_iload_n d_Mod_breaks_1 rfl 1 rfl ?_
  refine wm_put (Fi' := va_up Fi 37 x) d_Mod_breaks_2 37 (by decide) wF_Mod_136 rfl (by decide) rfl ?_
  refine wp_aload_n d_Mod_breaks_5 rfl 0 rfl ?_
  refine wp_iload_n d_Mod_breaks_6 rfl 2 rfl ?_
  refine wm_put (Fi' := va_up (va_up Fi 37 x) 38 z) d_Mod_breaks_7 38 (by decide) wF_Mod_139 rfl (by decide) rfl ?_
  refine wp_iconst (v := nI 0) d_Mod_breaks_10 (by decide) ?_
  exact wp_zret (ty := .boolean) d_Mod_breaks_11 rfl rfl ⟨rfl, rfl⟩
theorem c_Mod_isLetterG {G : Gt} {h : AHp} {t : Nat → Nat} (ht : ∀ p, t p < 256) (ln p : Nat) : CallR G m_Mod_isLetter 1 14 [.int (gI t ln p)] h 0 0 (some (.int (bI (isLet (gv t ln p))))) h :=
  CallR.eq (c_Mod_isLetter (gI t ln p)) (by rw [inZ_g ht ln p (by decide) (by decide)]; rfl) rfl
theorem c_Mod_isDigitG {G : Gt} {h : AHp} {t : Nat → Nat} (ht : ∀ p, t p < 256) (ln p : Nat) : CallR G m_Mod_isDigit 1 14 [.int (gI t ln p)] h 0 0 (some (.int (bI (isDig (gv t ln p))))) h :=
  CallR.eq (c_Mod_isDigit (gI t ln p)) (by rw [inZ_g ht ln p (by decide) (by decide)]; rfl) rfl
set_option maxRecDepth 20000 in
theorem c_Mod_passes {G : Gt} {o : Nat} {A : Nat → Nat} {Fi : Nat → Int32} {M : Nat → Nat → Int32} {Ml : Nat → Nat → Int64} {t : Nat → Nat} {ln : Nat} (hI : mInj o A) (hJ : Jt t ln Fi M) {a c r : Nat} (ha : Fi 40 = nI a) (hab : a < 2 ^ 30) (hc : c < 2 ^ 31) : CallE G m_Mod_passes 1 14 [.ref o, .int (nI c), .int (nI r)] (hM o A Fi M Ml) 0 0 (some (.int (bI (pByte (gv t ln) c r a).isLeft))) (fun h' => ∃ Fi', h' = hM o A Fi' M Ml ∧ RP (pByte (gv t ln) c r a) Fi Fi') := by
  have hres1 : gI t ln a = nI c → pByte (gv t ln) c r a = .inl (a + 1) := fun q => by
    have := (gI_eq hJ.2.2.2 ln a hc).mp q
    simp [pByte, this]
  have hres0 : ¬ gI t ln a = nI c → pByte (gv t ln) c r a = .inr (a, r) := fun q => by
    have h9 : ¬ gv t ln a = (c : Int) := fun e => q ((gI_eq hJ.2.2.2 ln a hc).mpr e)
    simp [pByte, h9]
  refine CallS.of (Nat.le_of_ble_eq_true rfl) ?_
  refine wp_aload_n d_Mod_passes_0 rfl 0 rfl ?_
  refine wp_aload_n d_Mod_passes_1 rfl 0 rfl ?_
  refine wm_get d_Mod_passes_2 40 (by decide) wF_Mod_148 rfl ?_
  refine wp_toI (z := (nI a)) (ha) ?_
  refine wp_callV (r := 0) d_Mod_passes_5 (link_V (as := [.int (nI a)]) (rest := []) (r := (R_Mod, T_Mod, 43)) d_Mod_passes_5 cal_Mod_here wM_Mod_151 rfl hM_o rfl) cal_Mod_here (c_Mod_here hI hJ (by omega)) (Nat.le_of_ble_eq_true rfl) ⟨Nat.le_of_ble_eq_true rfl, Nat.le_of_ble_eq_true rfl⟩ ?_
  refine wp_iload_n d_Mod_passes_8 rfl 1 rfl ?_
  refine wp_icmp_eq (tgt := 22) d_Mod_passes_9 (by decide) (fun c9 => ?_) (fun c9 => ?_)
  · refine wp_aload_n d_Mod_passes_22 rfl 0 rfl ?_
    refine wp_dup d_Mod_passes_23 rfl ?_
    refine wm_get d_Mod_passes_24 40 (by decide) wF_Mod_148 rfl ?_
    refine wp_toI (z := (nI a)) (ha) ?_
    refine wp_iconst (v := nI 1) d_Mod_passes_27 (by decide) ?_
    refine wp_iaddN d_Mod_passes_28 ?_
    refine wm_put (Fi' := va_up Fi 40 (nI (a + 1))) d_Mod_passes_29 40 (by decide) wF_Mod_148 rfl (by decide) rfl ?_
    refine wp_iconst (v := nI 1) d_Mod_passes_32 (by decide) ?_
    exact wp_zret (ty := .boolean) d_Mod_passes_33 rfl rfl ⟨resI (bI_one (by rw [hres1 c9]; rfl)), _, rfl, by rw [hres1 c9]; exact RP_ok⟩
  · refine wp_aload_n d_Mod_passes_12 rfl 0 rfl ?_
    refine wp_aload_n d_Mod_passes_13 rfl 0 rfl ?_
    refine wm_get d_Mod_passes_14 40 (by decide) wF_Mod_148 rfl ?_
    refine wp_toI (z := (nI a)) (ha) ?_
    refine wp_iload_n d_Mod_passes_17 rfl 2 rfl ?_
    refine wp_callV (r := 0) d_Mod_passes_18 (link_V (as := [.int (nI a), .int (nI r)]) (rest := []) (r := (R_Mod, T_Mod, 43)) d_Mod_passes_18 cal_Mod_breaks wM_Mod_155 rfl hM_o rfl) cal_Mod_breaks (c_Mod_breaks (nI a) (nI r)) (Nat.le_of_ble_eq_true rfl) ⟨Nat.le_of_ble_eq_true rfl, Nat.le_of_ble_eq_true rfl⟩ ?_
    exact wp_zret (ty := .boolean) d_Mod_passes_21 rfl rfl ⟨resI (bI_zero (by rw [hres0 c9]; rfl)), _, rfl, by rw [hres0 c9]; exact RP_no⟩
end Mod3
