section Cls39
theorem wp_sild {G : Gt} {y : Mi} {B : Bt} {pc : Nat} {lv : List (Nat × Value)} {st : List Value} {h : AHp} {k n b L i : Nat} {xs : Nat → Int32} (hd : decode (mB y) pc = .ok (.iaload, 1)) (hX : va_X b L xs (Gs G) (Gs G).heap) (hb : b < (Gs G).heap.size) (hi : i < L) (hL : L ≤ 3584) (kk : WP G y B (pc + 1) lv (.int (xs i) :: st) h k n) : WP G y B pc lv (.int (nI i) :: .ref b :: st) h k n := by
  intro p e R s m args below meth c hF H locs ls cells slots hP
  obtain ⟨hx, hb1, -, -, hown, -, -, -, hamb, -, -, -, -, hG⟩ := id hF
  have hX1 := va_X.kept (va_X.moved hamb.1.alike hX) (hamb.2.2 b hb)
  have hbl : b < s.heap.size := by
    obtain ⟨scr, h1, -⟩ := hX1
    exact (Array.getElem?_eq_some_iff.mp h1).1
  have hbA : ¬ AA (Bh B) s.heap.size b := fun z => absurd (low_A hamb hP.2.2.2.2.2.2.2.1 b z) (Nat.not_le.mpr hb)
  refine va_sld hx hb1 hX1 hbl hbA hP.2.2.2.1 (vp_in_nI hi (by omega)) hd ?_
  rw [nI_clamp (by omega)]
  exact kk p e R s m args below meth c hF H locs ls cells slots hP
theorem wp_slX {G : Gt} {y : Mi} {B : Bt} {pc : Nat} {lv : List (Nat × Value)} {st : List Value} {h : AHp} {k n b L : Nat} {xs : Nat → Int32} (hd : decode (mB y) pc = .ok (.arraylength, 1)) (hX : va_X b L xs (Gs G) (Gs G).heap) (hb : b < (Gs G).heap.size) (kk : WP G y B (pc + 1) lv (.int (nI L) :: st) h k n) : WP G y B pc lv (.ref b :: st) h k n := by
  intro p e R s m args below meth c hF H locs ls cells slots hP
  obtain ⟨hx, hb1, -, -, hown, -, -, -, hamb, -, -, -, -, hG⟩ := id hF
  have hX1 := va_X.kept (va_X.moved hamb.1.alike hX) (hamb.2.2 b hb)
  have hbl : b < s.heap.size := by
    obtain ⟨scr, h1, -⟩ := hX1
    exact (Array.getElem?_eq_some_iff.mp h1).1
  have hbA : ¬ AA (Bh B) s.heap.size b := fun z => absurd (low_A hamb hP.2.2.2.2.2.2.2.1 b z) (Nat.not_le.mpr hb)
  exact va_slen hx hb1 hX1 hbl hbA hP.2.2.2.1 hd (kk p e R s m args below meth c hF H locs ls cells slots hP)
/-- a helper is called -/
theorem wp_callL {G : Gt} {y y' : Mi} {B : Bt} {pc : Nat} {lv : List (Nat × Value)} {st rest av : List Value} {h f : AHp} {k n d' w' r na k' n' o out : Nat} {ig : Instr} {a : Ans} {P : (Nat → Int64) → Prop} (hd : decode (mB y) pc = .ok (ig, 3)) (hL : Link G y B pc st rest av y' (hor h f)) (hc : mCal y' na) (hC : CallS G y' d' w' av h k' n' (LQ o out a P)) (hD : Dj h f) (hr8 : (rest.map fun v => v.category).sum ≤ r) (hdep : d' + 1 ≤ Bd B ∧ r + (mL y' + 11) + w' ≤ Bw B)
    (kr : ∀ hc' v', Dj hc' (hO out v') → Dj (hor hc' (hO out v')) f → NetOK o a.2.2 hc' → (a.1 = 0 → P v') → WP G y B (pc + 3) lv (.int (nI a.1) :: rest) (hor (hor hc' (hO out v')) f) k n) : WP G y B pc lv st (hor h f) (k + k') (n + n') := by
  refine wp_call hd hL hc (hC.frame hD) hr8 hdep (fun v h' hq => ?_) (fun x h' hq => ?_)
  · obtain ⟨h1, ⟨hc', v', e, rfl, d1, ok, pv⟩, rfl, d2⟩ := hq
    cases e
    exact kr hc' v' d1 d2 ok pv
  · obtain ⟨h1, ⟨hc', v', e, -⟩, -⟩ := hq
    cases e
/-- the reference is called -/
theorem wp_callM {G : Gt} {y y' : Mi} {B : Bt} {pc : Nat} {lv : List (Nat × Value)} {st rest av : List Value} {g hm : AHp} {k n d' w' r na om : Nat} {A : Nat → Nat} {ig : Instr} {a : Ans} {vv : Option Value} (hd : decode (mB y) pc = .ok (ig, 3)) (hL : Link G y B pc st rest av y' (hor g hm)) (hc : mCal y' na) (hC : CallE G y' d' w' av hm 0 0 vv (RefOK om A a)) (hD : Dj g hm) (hr8 : (rest.map fun v => v.category).sum ≤ r) (hdep : d' + 1 ≤ Bd B ∧ r + (mL y' + 11) + w' ≤ Bw B)
    (kr : ∀ Fi' M' Ml', RepM a.2.2 Fi' M' Ml' → Fi' 0 = nI a.1 → Dj g (hM om A Fi' M' Ml') → WP G y B (pc + 3) lv (vv.toList ++ rest) (hor g (hM om A Fi' M' Ml')) k n) : WP G y B pc lv st (hor g hm) k n := by
  have hL' := hL
  rw [hor_comm hD] at hL' ⊢
  refine wp_call (k' := 0) (n' := 0) hd hL' hc (CallS.frame hC hD.symm) hr8 hdep (fun v h' hq => ?_) (fun x h' hq => ?_)
  · obtain ⟨h1, ⟨e, Fi', M', Ml', rfl, rp, f0⟩, rfl, d2⟩ := hq
    cases e
    rw [hor_comm d2]
    exact kr Fi' M' Ml' rp f0 d2.symm
  · obtain ⟨h1, ⟨e, -⟩, -⟩ := hq
    cases e
theorem wp_callMR {G : Gt} {y y' : Mi} {B : Bt} {pc : Nat} {lv : List (Nat × Value)} {st rest av : List Value} {g hm : AHp} {k n d' w' r na : Nat} {ig : Instr} {v : Value} (hd : decode (mB y) pc = .ok (ig, 3)) (hL : Link G y B pc st rest av y' (hor g hm)) (hc : mCal y' na) (hC : CallR G y' d' w' av hm 0 0 (some v) hm) (hD : Dj g hm) (hr8 : (rest.map fun v => v.category).sum ≤ r) (hdep : d' + 1 ≤ Bd B ∧ r + (mL y' + 11) + w' ≤ Bw B)
    (kr : WP G y B (pc + 3) lv (v :: rest) (hor g hm) k n) : WP G y B pc lv st (hor g hm) k n := by
  have hL' := hL
  rw [hor_comm hD] at hL' ⊢
  refine wp_call (k' := 0) (n' := 0) hd hL' hc (CallS.frame hC hD.symm) hr8 hdep (fun v h' hq => ?_) (fun x h' hq => ?_)
  · obtain ⟨h1, ⟨e, rfl⟩, rfl, d2⟩ := hq
    cases e
    rw [hor_comm d2]
    exact kr
  · obtain ⟨h1, ⟨e, -⟩, -⟩ := hq
    cases e
/-- the law between two calls: t are done -/
def LJ (t o om out : Nat) (A : Nat → Nat) (h : AHp) : Prop := ∃ (s : Sa) (hc : AHp) (v : Nat → Int64) (Fi : Nat → Int32) (M : Nat → Nat → Int32) (Ml : Nat → Nat → Int64), h = hor (hor hc (hO out v)) (hM om A Fi M Ml) ∧ Dj hc (hO out v) ∧ Dj (hor hc (hO out v)) (hM om A Fi M Ml) ∧ NetOK o s hc ∧ RepM s Fi M Ml ∧ Inv t s ∧ (sMs s).length ≤ t
set_option maxRecDepth 20000 in
theorem lc_line {G : Gt} {B : Bt} {b L o om out t k n : Nat} {A : Nat → Nat} {xs : Nat → Int32} {h : AHp} (hS : jOK G) (hI : mInj om A) (hX : va_X b L xs (Gs G) (Gs G).heap) (hb : b < (Gs G).heap.size) (hL : L ≤ 3584) (ht : 7 * t + 7 ≤ L) (hB : 12 ≤ Bd B ∧ 220 ≤ Bw B) (hJ : LJ t o om out A h) (kk : ∀ h', LJ (t + 1) o om out A h' → WP G m_Law_law B 1115 [(4, .int (nI (7 * t))), (3, .ref out), (2, .ref om), (1, .ref o), (0, .ref b)] [] h' k n) : WP G m_Law_law B 112 [(4, .int (nI (7 * t))), (3, .ref out), (2, .ref om), (1, .ref o), (0, .ref b)] [] h (k + stepK t) (n + stepN t) := by
  obtain ⟨s, hc, v, Fi, M, Ml, rfl, dj1, dj2, ok, rp, hV, hms⟩ := hJ
  have hm2 := hV.2.1.2.2.2.2.2.2.1
  have hcd := cd_line s (xs (7 * t + 1)) (xs (7 * t + 2)) (xs (7 * t + 3))
  refine wp_bud (k' := k + (0 + 23)) (n' := n + (0 + 520)) (by unfold stepK; omega) (by unfold stepN; omega) ?_
  refine wp_aload_n d_Law_law_112 rfl 3 rfl ?_
  refine wp_aload_n d_Law_law_113 rfl 4 rfl ?_
  refine wp_iload d_Law_law_114 0 rfl ?_
  refine wp_iconst (v := nI 1) d_Law_law_116 (by decide) ?_
  refine wp_iaddN d_Law_law_117 ?_
  refine wp_sild d_Law_law_118 hX hb (by omega) hL ?_
  refine wp_aload_n d_Law_law_119 rfl 4 rfl ?_
  refine wp_iload d_Law_law_120 0 rfl ?_
  refine wp_iconst (v := nI 2) d_Law_law_122 (by decide) ?_
  refine wp_iaddN d_Law_law_123 ?_
  refine wp_sild d_Law_law_124 hX hb (by omega) hL ?_
  refine wp_aload_n d_Law_law_125 rfl 4 rfl ?_
  refine wp_iload d_Law_law_126 0 rfl ?_
  refine wp_iconst (v := nI 3) d_Law_law_128 (by decide) ?_
  refine wp_iaddN d_Law_law_129 ?_
  refine wp_sild d_Law_law_130 hX hb (by omega) hL ?_
  refine wp_callL (k' := (0 + 23)) (n' := (0 + 520)) (r := 0) d_Law_law_131 (link_S (av := [.ref o, .int (xs ((7 * t) + 1)), .int (xs ((7 * t) + 2)), .int (xs ((7 * t) + 3))]) (rest := []) d_Law_law_131 cal_Law_line wM_Law_68 rfl) cal_Law_line (l_line ok hV dj1 (xs (7 * t + 1)) (xs (7 * t + 2)) (xs (7 * t + 3))) dj2 (Nat.le_of_ble_eq_true rfl) ⟨Nat.le_trans (Nat.le_of_ble_eq_true rfl) hB.1, Nat.le_trans (Nat.le_of_ble_eq_true rfl) hB.2⟩ (fun hc' v' dj1' dj2' ok' pv => ?_)
  refine wp_istore (lv' := [(5, .int (nI ((stLine s (xs (7 * t + 1)) (xs (7 * t + 2)) (xs (7 * t + 3))).1))), (4, .int (nI (7 * t))), (3, .ref out), (2, .ref om), (1, .ref o), (0, .ref b)]) d_Law_law_134 (by decide) rfl ?_
  refine wp_aload_n d_Law_law_136 rfl 3 rfl ?_
  refine wp_aload_n d_Law_law_137 rfl 5 rfl ?_
  refine wp_iload d_Law_law_138 1 rfl ?_
  refine wp_iconst (v := nI 1) d_Law_law_140 (by decide) ?_
  refine wp_iaddN d_Law_law_141 ?_
  refine wp_sild d_Law_law_142 hX hb (by omega) hL ?_
  refine wp_aload_n d_Law_law_143 rfl 5 rfl ?_
  refine wp_iload d_Law_law_144 1 rfl ?_
  refine wp_iconst (v := nI 2) d_Law_law_146 (by decide) ?_
  refine wp_iaddN d_Law_law_147 ?_
  refine wp_sild d_Law_law_148 hX hb (by omega) hL ?_
  refine wp_aload_n d_Law_law_149 rfl 5 rfl ?_
  refine wp_iload d_Law_law_150 1 rfl ?_
  refine wp_iconst (v := nI 3) d_Law_law_152 (by decide) ?_
  refine wp_iaddN d_Law_law_153 ?_
  refine wp_sild d_Law_law_154 hX hb (by omega) hL ?_
  refine wp_callM (a := (stLine s (xs (7 * t + 1)) (xs (7 * t + 2)) (xs (7 * t + 3)))) (r := 0) d_Law_law_155 (link_V (as := [.int (xs ((7 * t) + 1)), .int (xs ((7 * t) + 2)), .int (xs ((7 * t) + 3))]) (rest := []) (r := (R_Mod, T_Mod, 43)) d_Law_law_155 cal_Mod_line wM_Law_73 rfl (by rw [hor_comm dj2']; exact hor_l hM_o) rfl) cal_Mod_line (c_Mod_line hI rp hV (xs (7 * t + 1)) (xs (7 * t + 2)) (xs (7 * t + 3))) dj2' (Nat.le_of_ble_eq_true rfl) ⟨Nat.le_trans (Nat.le_of_ble_eq_true rfl) hB.1, Nat.le_trans (Nat.le_of_ble_eq_true rfl) hB.2⟩ (fun Fi' M' Ml' rp' f0' dj3 => ?_)
  show WP G m_Law_law B 158 _ [] _ _ _
  refine wp_aload_n d_Law_law_158 rfl 3 rfl ?_
  refine wp_callMR (r := 0) d_Law_law_159 (link_V (as := []) (rest := []) (r := (R_Mod, T_Mod, 43)) d_Law_law_159 cal_Mod_thrown wM_Law_74 rfl (by rw [hor_comm dj3]; exact hor_l hM_o) rfl) cal_Mod_thrown c_Mod_thrown dj3 (Nat.le_of_ble_eq_true rfl) ⟨Nat.le_trans (Nat.le_of_ble_eq_true rfl) hB.1, Nat.le_trans (Nat.le_of_ble_eq_true rfl) hB.2⟩ ?_
  refine wp_toI (z := nI (stLine s (xs (7 * t + 1)) (xs (7 * t + 2)) (xs (7 * t + 3))).1) f0' ?_
  refine wp_iload d_Law_law_162 0 rfl ?_
  refine wp_icmp_eq (tgt := 169) d_Law_law_164 (by decide) (fun _ => ?_) (fun c => absurd rfl c)
  refine wp_goto (tgt := 1115) d_Law_law_169 (by decide) ?_
  refine wp_lv [1, 2, 3, 4, 5] rfl ?_
  exact kk _ ⟨(stLine s (xs (7 * t + 1)) (xs (7 * t + 2)) (xs (7 * t + 3))).2.2, hc', v', Fi', M', Ml', rfl, dj1', dj3, ok', rp', iLine hV (by omega) (xs (7 * t + 1)) (xs (7 * t + 2)) (xs (7 * t + 3)), by have := msl_line s (xs (7 * t + 1)) (xs (7 * t + 2)) (xs (7 * t + 3)); omega⟩
set_option maxRecDepth 20000 in
theorem lc_route {G : Gt} {B : Bt} {b L o om out t k n : Nat} {A : Nat → Nat} {xs : Nat → Int32} {h : AHp} (hS : jOK G) (hI : mInj om A) (hX : va_X b L xs (Gs G) (Gs G).heap) (hb : b < (Gs G).heap.size) (hL : L ≤ 3584) (ht : 7 * t + 7 ≤ L) (hB : 12 ≤ Bd B ∧ 220 ≤ Bw B) (hJ : LJ t o om out A h) (kk : ∀ h', LJ (t + 1) o om out A h' → WP G m_Law_law B 1115 [(4, .int (nI (7 * t))), (3, .ref out), (2, .ref om), (1, .ref o), (0, .ref b)] [] h' k n) : WP G m_Law_law B 172 [(4, .int (nI (7 * t))), (3, .ref out), (2, .ref om), (1, .ref o), (0, .ref b)] [] h (k + stepK t) (n + stepN t) := by
  obtain ⟨s, hc, v, Fi, M, Ml, rfl, dj1, dj2, ok, rp, hV, hms⟩ := hJ
  have hm2 := hV.2.1.2.2.2.2.2.2.1
  have hcd := cd_route s (xs (7 * t + 1)) (xs (7 * t + 2)) (xs (7 * t + 3)) (xs (7 * t + 4)) (xs (7 * t + 5)) (xs (7 * t + 6))
  refine wp_bud (k' := k + (0 + 1)) (n' := n + (0 + 6)) (by unfold stepK; omega) (by unfold stepN; omega) ?_
  refine wp_aload_n d_Law_law_172 rfl 3 rfl ?_
  refine wp_aload_n d_Law_law_173 rfl 4 rfl ?_
  refine wp_iload d_Law_law_174 0 rfl ?_
  refine wp_iconst (v := nI 1) d_Law_law_176 (by decide) ?_
  refine wp_iaddN d_Law_law_177 ?_
  refine wp_sild d_Law_law_178 hX hb (by omega) hL ?_
  refine wp_aload_n d_Law_law_179 rfl 4 rfl ?_
  refine wp_iload d_Law_law_180 0 rfl ?_
  refine wp_iconst (v := nI 2) d_Law_law_182 (by decide) ?_
  refine wp_iaddN d_Law_law_183 ?_
  refine wp_sild d_Law_law_184 hX hb (by omega) hL ?_
  refine wp_aload_n d_Law_law_185 rfl 4 rfl ?_
  refine wp_iload d_Law_law_186 0 rfl ?_
  refine wp_iconst (v := nI 3) d_Law_law_188 (by decide) ?_
  refine wp_iaddN d_Law_law_189 ?_
  refine wp_sild d_Law_law_190 hX hb (by omega) hL ?_
  refine wp_aload_n d_Law_law_191 rfl 4 rfl ?_
  refine wp_iload d_Law_law_192 0 rfl ?_
  refine wp_iconst (v := nI 4) d_Law_law_194 (by decide) ?_
  refine wp_iaddN d_Law_law_195 ?_
  refine wp_sild d_Law_law_196 hX hb (by omega) hL ?_
  refine wp_aload_n d_Law_law_197 rfl 4 rfl ?_
  refine wp_iload d_Law_law_198 0 rfl ?_
  refine wp_iconst (v := nI 5) d_Law_law_200 (by decide) ?_
  refine wp_iaddN d_Law_law_201 ?_
  refine wp_sild d_Law_law_202 hX hb (by omega) hL ?_
  refine wp_aload_n d_Law_law_203 rfl 4 rfl ?_
  refine wp_iload d_Law_law_204 0 rfl ?_
  refine wp_bipush (v := nI 6) d_Law_law_206 (by decide) ?_
  refine wp_iaddN d_Law_law_208 ?_
  refine wp_sild d_Law_law_209 hX hb (by omega) hL ?_
  refine wp_callL (k' := (0 + 1)) (n' := (0 + 6)) (r := 0) d_Law_law_210 (link_S (av := [.ref o, .int (xs ((7 * t) + 1)), .int (xs ((7 * t) + 2)), .int (xs ((7 * t) + 3)), .int (xs ((7 * t) + 4)), .int (xs ((7 * t) + 5)), .int (xs ((7 * t) + 6))]) (rest := []) d_Law_law_210 cal_Law_route wM_Law_78 rfl) cal_Law_route (l_route ok hV dj1 (xs (7 * t + 1)) (xs (7 * t + 2)) (xs (7 * t + 3)) (xs (7 * t + 4)) (xs (7 * t + 5)) (xs (7 * t + 6))) dj2 (Nat.le_of_ble_eq_true rfl) ⟨Nat.le_trans (Nat.le_of_ble_eq_true rfl) hB.1, Nat.le_trans (Nat.le_of_ble_eq_true rfl) hB.2⟩ (fun hc' v' dj1' dj2' ok' pv => ?_)
  refine wp_istore (lv' := [(5, .int (nI ((stRoute s (xs (7 * t + 1)) (xs (7 * t + 2)) (xs (7 * t + 3)) (xs (7 * t + 4)) (xs (7 * t + 5)) (xs (7 * t + 6))).1))), (4, .int (nI (7 * t))), (3, .ref out), (2, .ref om), (1, .ref o), (0, .ref b)]) d_Law_law_213 (by decide) rfl ?_
  refine wp_aload_n d_Law_law_215 rfl 3 rfl ?_
  refine wp_aload_n d_Law_law_216 rfl 5 rfl ?_
  refine wp_iload d_Law_law_217 1 rfl ?_
  refine wp_iconst (v := nI 1) d_Law_law_219 (by decide) ?_
  refine wp_iaddN d_Law_law_220 ?_
  refine wp_sild d_Law_law_221 hX hb (by omega) hL ?_
  refine wp_aload_n d_Law_law_222 rfl 5 rfl ?_
  refine wp_iload d_Law_law_223 1 rfl ?_
  refine wp_iconst (v := nI 2) d_Law_law_225 (by decide) ?_
  refine wp_iaddN d_Law_law_226 ?_
  refine wp_sild d_Law_law_227 hX hb (by omega) hL ?_
  refine wp_aload_n d_Law_law_228 rfl 5 rfl ?_
  refine wp_iload d_Law_law_229 1 rfl ?_
  refine wp_iconst (v := nI 3) d_Law_law_231 (by decide) ?_
  refine wp_iaddN d_Law_law_232 ?_
  refine wp_sild d_Law_law_233 hX hb (by omega) hL ?_
  refine wp_aload_n d_Law_law_234 rfl 5 rfl ?_
  refine wp_iload d_Law_law_235 1 rfl ?_
  refine wp_iconst (v := nI 4) d_Law_law_237 (by decide) ?_
  refine wp_iaddN d_Law_law_238 ?_
  refine wp_sild d_Law_law_239 hX hb (by omega) hL ?_
  refine wp_aload_n d_Law_law_240 rfl 5 rfl ?_
  refine wp_iload d_Law_law_241 1 rfl ?_
  refine wp_iconst (v := nI 5) d_Law_law_243 (by decide) ?_
  refine wp_iaddN d_Law_law_244 ?_
  refine wp_sild d_Law_law_245 hX hb (by omega) hL ?_
  refine wp_aload_n d_Law_law_246 rfl 5 rfl ?_
  refine wp_iload d_Law_law_247 1 rfl ?_
  refine wp_bipush (v := nI 6) d_Law_law_249 (by decide) ?_
  refine wp_iaddN d_Law_law_251 ?_
  refine wp_sild d_Law_law_252 hX hb (by omega) hL ?_
  refine wp_callM (a := (stRoute s (xs (7 * t + 1)) (xs (7 * t + 2)) (xs (7 * t + 3)) (xs (7 * t + 4)) (xs (7 * t + 5)) (xs (7 * t + 6)))) (r := 0) d_Law_law_253 (link_V (as := [.int (xs ((7 * t) + 1)), .int (xs ((7 * t) + 2)), .int (xs ((7 * t) + 3)), .int (xs ((7 * t) + 4)), .int (xs ((7 * t) + 5)), .int (xs ((7 * t) + 6))]) (rest := []) (r := (R_Mod, T_Mod, 43)) d_Law_law_253 cal_Mod_route wM_Law_81 rfl (by rw [hor_comm dj2']; exact hor_l hM_o) rfl) cal_Mod_route (c_Mod_route hI rp hV (xs (7 * t + 1)) (xs (7 * t + 2)) (xs (7 * t + 3)) (xs (7 * t + 4)) (xs (7 * t + 5)) (xs (7 * t + 6))) dj2' (Nat.le_of_ble_eq_true rfl) ⟨Nat.le_trans (Nat.le_of_ble_eq_true rfl) hB.1, Nat.le_trans (Nat.le_of_ble_eq_true rfl) hB.2⟩ (fun Fi' M' Ml' rp' f0' dj3 => ?_)
  show WP G m_Law_law B 256 _ [] _ _ _
  refine wp_aload_n d_Law_law_256 rfl 3 rfl ?_
  refine wp_callMR (r := 0) d_Law_law_257 (link_V (as := []) (rest := []) (r := (R_Mod, T_Mod, 43)) d_Law_law_257 cal_Mod_thrown wM_Law_74 rfl (by rw [hor_comm dj3]; exact hor_l hM_o) rfl) cal_Mod_thrown c_Mod_thrown dj3 (Nat.le_of_ble_eq_true rfl) ⟨Nat.le_trans (Nat.le_of_ble_eq_true rfl) hB.1, Nat.le_trans (Nat.le_of_ble_eq_true rfl) hB.2⟩ ?_
  refine wp_toI (z := nI (stRoute s (xs (7 * t + 1)) (xs (7 * t + 2)) (xs (7 * t + 3)) (xs (7 * t + 4)) (xs (7 * t + 5)) (xs (7 * t + 6))).1) f0' ?_
  refine wp_iload d_Law_law_260 0 rfl ?_
  refine wp_icmp_eq (tgt := 267) d_Law_law_262 (by decide) (fun _ => ?_) (fun c => absurd rfl c)
  refine wp_goto (tgt := 1115) d_Law_law_267 (by decide) ?_
  refine wp_lv [1, 2, 3, 4, 5] rfl ?_
  exact kk _ ⟨(stRoute s (xs (7 * t + 1)) (xs (7 * t + 2)) (xs (7 * t + 3)) (xs (7 * t + 4)) (xs (7 * t + 5)) (xs (7 * t + 6))).2.2, hc', v', Fi', M', Ml', rfl, dj1', dj3, ok', rp', iRoute hV (by omega) (xs (7 * t + 1)) (xs (7 * t + 2)) (xs (7 * t + 3)) (xs (7 * t + 4)) (xs (7 * t + 5)) (xs (7 * t + 6)), by have := msl_route s (xs (7 * t + 1)) (xs (7 * t + 2)) (xs (7 * t + 3)) (xs (7 * t + 4)) (xs (7 * t + 5)) (xs (7 * t + 6)); omega⟩
set_option maxRecDepth 20000 in
theorem lc_put {G : Gt} {B : Bt} {b L o om out t k n : Nat} {A : Nat → Nat} {xs : Nat → Int32} {h : AHp} (hS : jOK G) (hI : mInj om A) (hX : va_X b L xs (Gs G) (Gs G).heap) (hb : b < (Gs G).heap.size) (hL : L ≤ 3584) (ht : 7 * t + 7 ≤ L) (hB : 12 ≤ Bd B ∧ 220 ≤ Bw B) (hJ : LJ t o om out A h) (kk : ∀ h', LJ (t + 1) o om out A h' → WP G m_Law_law B 1115 [(4, .int (nI (7 * t))), (3, .ref out), (2, .ref om), (1, .ref o), (0, .ref b)] [] h' k n) : WP G m_Law_law B 270 [(4, .int (nI (7 * t))), (3, .ref out), (2, .ref om), (1, .ref o), (0, .ref b)] [] h (k + stepK t) (n + stepN t) := by
  obtain ⟨s, hc, v, Fi, M, Ml, rfl, dj1, dj2, ok, rp, hV, hms⟩ := hJ
  have hm2 := hV.2.1.2.2.2.2.2.2.1
  have hcd := cd_put s (xs (7 * t + 1)) (xs (7 * t + 2))
  refine wp_bud (k' := k + (0 + 1)) (n' := n + (0 + 6)) (by unfold stepK; omega) (by unfold stepN; omega) ?_
  refine wp_aload_n d_Law_law_270 rfl 3 rfl ?_
  refine wp_aload_n d_Law_law_271 rfl 4 rfl ?_
  refine wp_iload d_Law_law_272 0 rfl ?_
  refine wp_iconst (v := nI 1) d_Law_law_274 (by decide) ?_
  refine wp_iaddN d_Law_law_275 ?_
  refine wp_sild d_Law_law_276 hX hb (by omega) hL ?_
  refine wp_aload_n d_Law_law_277 rfl 4 rfl ?_
  refine wp_iload d_Law_law_278 0 rfl ?_
  refine wp_iconst (v := nI 2) d_Law_law_280 (by decide) ?_
  refine wp_iaddN d_Law_law_281 ?_
  refine wp_sild d_Law_law_282 hX hb (by omega) hL ?_
  refine wp_callL (k' := (0 + 1)) (n' := (0 + 6)) (r := 0) d_Law_law_283 (link_S (av := [.ref o, .int (xs ((7 * t) + 1)), .int (xs ((7 * t) + 2))]) (rest := []) d_Law_law_283 cal_Law_put wM_Law_82 rfl) cal_Law_put (l_put ok hV dj1 (xs (7 * t + 1)) (xs (7 * t + 2))) dj2 (Nat.le_of_ble_eq_true rfl) ⟨Nat.le_trans (Nat.le_of_ble_eq_true rfl) hB.1, Nat.le_trans (Nat.le_of_ble_eq_true rfl) hB.2⟩ (fun hc' v' dj1' dj2' ok' pv => ?_)
  refine wp_istore (lv' := [(5, .int (nI ((stPut s (xs (7 * t + 1)) (xs (7 * t + 2))).1))), (4, .int (nI (7 * t))), (3, .ref out), (2, .ref om), (1, .ref o), (0, .ref b)]) d_Law_law_286 (by decide) rfl ?_
  refine wp_aload_n d_Law_law_288 rfl 3 rfl ?_
  refine wp_aload_n d_Law_law_289 rfl 5 rfl ?_
  refine wp_iload d_Law_law_290 1 rfl ?_
  refine wp_iconst (v := nI 1) d_Law_law_292 (by decide) ?_
  refine wp_iaddN d_Law_law_293 ?_
  refine wp_sild d_Law_law_294 hX hb (by omega) hL ?_
  refine wp_aload_n d_Law_law_295 rfl 5 rfl ?_
  refine wp_iload d_Law_law_296 1 rfl ?_
  refine wp_iconst (v := nI 2) d_Law_law_298 (by decide) ?_
  refine wp_iaddN d_Law_law_299 ?_
  refine wp_sild d_Law_law_300 hX hb (by omega) hL ?_
  refine wp_callM (a := (stPut s (xs (7 * t + 1)) (xs (7 * t + 2)))) (r := 0) d_Law_law_301 (link_V (as := [.int (xs ((7 * t) + 1)), .int (xs ((7 * t) + 2))]) (rest := []) (r := (R_Mod, T_Mod, 43)) d_Law_law_301 cal_Mod_put wM_Law_85 rfl (by rw [hor_comm dj2']; exact hor_l hM_o) rfl) cal_Mod_put (c_Mod_put hI rp hV (xs (7 * t + 1)) (xs (7 * t + 2))) dj2' (Nat.le_of_ble_eq_true rfl) ⟨Nat.le_trans (Nat.le_of_ble_eq_true rfl) hB.1, Nat.le_trans (Nat.le_of_ble_eq_true rfl) hB.2⟩ (fun Fi' M' Ml' rp' f0' dj3 => ?_)
  show WP G m_Law_law B 304 _ [] _ _ _
  refine wp_aload_n d_Law_law_304 rfl 3 rfl ?_
  refine wp_callMR (r := 0) d_Law_law_305 (link_V (as := []) (rest := []) (r := (R_Mod, T_Mod, 43)) d_Law_law_305 cal_Mod_thrown wM_Law_74 rfl (by rw [hor_comm dj3]; exact hor_l hM_o) rfl) cal_Mod_thrown c_Mod_thrown dj3 (Nat.le_of_ble_eq_true rfl) ⟨Nat.le_trans (Nat.le_of_ble_eq_true rfl) hB.1, Nat.le_trans (Nat.le_of_ble_eq_true rfl) hB.2⟩ ?_
  refine wp_toI (z := nI (stPut s (xs (7 * t + 1)) (xs (7 * t + 2))).1) f0' ?_
  refine wp_iload d_Law_law_308 0 rfl ?_
  refine wp_icmp_eq (tgt := 315) d_Law_law_310 (by decide) (fun _ => ?_) (fun c => absurd rfl c)
  refine wp_goto (tgt := 1115) d_Law_law_315 (by decide) ?_
  refine wp_lv [1, 2, 3, 4, 5] rfl ?_
  exact kk _ ⟨(stPut s (xs (7 * t + 1)) (xs (7 * t + 2))).2.2, hc', v', Fi', M', Ml', rfl, dj1', dj3, ok', rp', iPut hV (by omega) (xs (7 * t + 1)) (xs (7 * t + 2)), by have := msl_put s (xs (7 * t + 1)) (xs (7 * t + 2)); omega⟩
set_option maxRecDepth 20000 in
theorem lc_file {G : Gt} {B : Bt} {b L o om out t k n : Nat} {A : Nat → Nat} {xs : Nat → Int32} {h : AHp} (hS : jOK G) (hI : mInj om A) (hX : va_X b L xs (Gs G) (Gs G).heap) (hb : b < (Gs G).heap.size) (hL : L ≤ 3584) (ht : 7 * t + 7 ≤ L) (hB : 12 ≤ Bd B ∧ 220 ≤ Bw B) (hJ : LJ t o om out A h) (kk : ∀ h', LJ (t + 1) o om out A h' → WP G m_Law_law B 1115 [(4, .int (nI (7 * t))), (3, .ref out), (2, .ref om), (1, .ref o), (0, .ref b)] [] h' k n) : WP G m_Law_law B 318 [(4, .int (nI (7 * t))), (3, .ref out), (2, .ref om), (1, .ref o), (0, .ref b)] [] h (k + stepK t) (n + stepN t) := by
  obtain ⟨s, hc, v, Fi, M, Ml, rfl, dj1, dj2, ok, rp, hV, hms⟩ := hJ
  have hm2 := hV.2.1.2.2.2.2.2.2.1
  have hcd := cd_file s (xs (7 * t + 1)) (xs (7 * t + 2))
  refine wp_bud (k' := k + (0 + 10)) (n' := n + (0 + 1640)) (by unfold stepK; omega) (by unfold stepN; omega) ?_
  refine wp_aload_n d_Law_law_318 rfl 3 rfl ?_
  refine wp_aload_n d_Law_law_319 rfl 4 rfl ?_
  refine wp_iload d_Law_law_320 0 rfl ?_
  refine wp_iconst (v := nI 1) d_Law_law_322 (by decide) ?_
  refine wp_iaddN d_Law_law_323 ?_
  refine wp_sild d_Law_law_324 hX hb (by omega) hL ?_
  refine wp_aload_n d_Law_law_325 rfl 4 rfl ?_
  refine wp_iload d_Law_law_326 0 rfl ?_
  refine wp_iconst (v := nI 2) d_Law_law_328 (by decide) ?_
  refine wp_iaddN d_Law_law_329 ?_
  refine wp_sild d_Law_law_330 hX hb (by omega) hL ?_
  refine wp_aload_n d_Law_law_331 rfl 1 rfl ?_
  refine wp_callL (k' := (0 + 10)) (n' := (0 + 1640)) (r := 0) d_Law_law_332 (link_S (av := [.ref o, .int (xs ((7 * t) + 1)), .int (xs ((7 * t) + 2)), .ref out]) (rest := []) d_Law_law_332 cal_Law_file wM_Law_86 rfl) cal_Law_file (l_file hS ok hV dj1 (xs (7 * t + 1)) (xs (7 * t + 2))) dj2 (Nat.le_of_ble_eq_true rfl) ⟨Nat.le_trans (Nat.le_of_ble_eq_true rfl) hB.1, Nat.le_trans (Nat.le_of_ble_eq_true rfl) hB.2⟩ (fun hc' v' dj1' dj2' ok' pv => ?_)
  refine wp_istore (lv' := [(5, .int (nI ((stFile s (xs (7 * t + 1)) (xs (7 * t + 2))).1))), (4, .int (nI (7 * t))), (3, .ref out), (2, .ref om), (1, .ref o), (0, .ref b)]) d_Law_law_335 (by decide) rfl ?_
  refine wp_aload_n d_Law_law_337 rfl 3 rfl ?_
  refine wp_aload_n d_Law_law_338 rfl 5 rfl ?_
  refine wp_iload d_Law_law_339 1 rfl ?_
  refine wp_iconst (v := nI 1) d_Law_law_341 (by decide) ?_
  refine wp_iaddN d_Law_law_342 ?_
  refine wp_sild d_Law_law_343 hX hb (by omega) hL ?_
  refine wp_aload_n d_Law_law_344 rfl 5 rfl ?_
  refine wp_iload d_Law_law_345 1 rfl ?_
  refine wp_iconst (v := nI 2) d_Law_law_347 (by decide) ?_
  refine wp_iaddN d_Law_law_348 ?_
  refine wp_sild d_Law_law_349 hX hb (by omega) hL ?_
  refine wp_callM (a := (stFile s (xs (7 * t + 1)) (xs (7 * t + 2)))) (r := 0) d_Law_law_350 (link_V (as := [.int (xs ((7 * t) + 1)), .int (xs ((7 * t) + 2))]) (rest := []) (r := (R_Mod, T_Mod, 43)) d_Law_law_350 cal_Mod_file wM_Law_89 rfl (by rw [hor_comm dj2']; exact hor_l hM_o) rfl) cal_Mod_file (c_Mod_file hI rp hV (xs (7 * t + 1)) (xs (7 * t + 2))) dj2' (Nat.le_of_ble_eq_true rfl) ⟨Nat.le_trans (Nat.le_of_ble_eq_true rfl) hB.1, Nat.le_trans (Nat.le_of_ble_eq_true rfl) hB.2⟩ (fun Fi' M' Ml' rp' f0' dj3 => ?_)
  show WP G m_Law_law B 353 _ (.int (stFile s (xs (7 * t + 1)) (xs (7 * t + 2))).2.1 :: []) _ _ _
  refine wp_istore (lv' := [(6, .int ((stFile s (xs (7 * t + 1)) (xs (7 * t + 2))).2.1)), (5, .int (nI ((stFile s (xs (7 * t + 1)) (xs (7 * t + 2))).1))), (4, .int (nI (7 * t))), (3, .ref out), (2, .ref om), (1, .ref o), (0, .ref b)]) d_Law_law_353 (by decide) rfl ?_
  refine wp_aload_n d_Law_law_355 rfl 4 rfl ?_
  refine wp_callMR (r := 0) d_Law_law_356 (link_V (as := []) (rest := []) (r := (R_Mod, T_Mod, 43)) d_Law_law_356 cal_Mod_thrown wM_Law_74 rfl (by rw [hor_comm dj3]; exact hor_l hM_o) rfl) cal_Mod_thrown c_Mod_thrown dj3 (Nat.le_of_ble_eq_true rfl) ⟨Nat.le_trans (Nat.le_of_ble_eq_true rfl) hB.1, Nat.le_trans (Nat.le_of_ble_eq_true rfl) hB.2⟩ ?_
  refine wp_toI (z := nI (stFile s (xs (7 * t + 1)) (xs (7 * t + 2))).1) f0' ?_
  refine wp_iload d_Law_law_359 1 rfl ?_
  refine wp_icmp_eq (tgt := 366) d_Law_law_361 (by decide) (fun _ => ?_) (fun c => absurd rfl c)
  refine wp_iload d_Law_law_366 1 rfl ?_
  refine wp_if_neN (tgt := 383) d_Law_law_368 (by decide) (by omega) (fun c368 => ?_) (fun c368 => ?_)
  · refine wp_goto (tgt := 1115) d_Law_law_383 (by decide) ?_
    refine wp_lv [2, 3, 4, 5, 6] rfl ?_
    exact kk _ ⟨(stFile s (xs (7 * t + 1)) (xs (7 * t + 2))).2.2, hc', v', Fi', M', Ml', rfl, dj1', dj3, ok', rp', iFile hV (by omega) (xs (7 * t + 1)) (xs (7 * t + 2)), by have := msl_file s (xs (7 * t + 1)) (xs (7 * t + 2)); omega⟩
  · refine wp_aload_n d_Law_law_371 rfl 3 rfl ?_
    refine wp_iconst (v := nI 0) d_Law_law_372 (by decide) ?_
    have h0 : (stFile s (xs (7 * t + 1)) (xs (7 * t + 2))).1 = 0 := by omega
    refine wp_lald (t := 1) (N := 1) (f := v') d_Law_law_373 (hor_l (hO_at dj1')) rfl vp_in0 ?_
    refine wp_toL (z := (stFile s (xs (7 * t + 1)) (xs (7 * t + 2))).2.1.toInt64) (pv h0) ?_
    refine wp_iload d_Law_law_374 0 rfl ?_
    refine wp_i2l d_Law_law_376 rfl ?_
    refine wp_lcmp d_Law_law_377 ?_
    refine wp_if_eqC (tgt := 383) d_Law_law_378 (by decide) (fun _ => ?_) (fun c => absurd rfl c)
    refine wp_goto (tgt := 1115) d_Law_law_383 (by decide) ?_
    refine wp_lv [2, 3, 4, 5, 6] rfl ?_
    exact kk _ ⟨(stFile s (xs (7 * t + 1)) (xs (7 * t + 2))).2.2, hc', v', Fi', M', Ml', rfl, dj1', dj3, ok', rp', iFile hV (by omega) (xs (7 * t + 1)) (xs (7 * t + 2)), by have := msl_file s (xs (7 * t + 1)) (xs (7 * t + 2)); omega⟩
set_option maxRecDepth 20000 in
theorem lc_send {G : Gt} {B : Bt} {b L o om out t k n : Nat} {A : Nat → Nat} {xs : Nat → Int32} {h : AHp} (hS : jOK G) (hI : mInj om A) (hX : va_X b L xs (Gs G) (Gs G).heap) (hb : b < (Gs G).heap.size) (hL : L ≤ 3584) (ht : 7 * t + 7 ≤ L) (hB : 12 ≤ Bd B ∧ 220 ≤ Bw B) (hJ : LJ t o om out A h) (kk : ∀ h', LJ (t + 1) o om out A h' → WP G m_Law_law B 1115 [(4, .int (nI (7 * t))), (3, .ref out), (2, .ref om), (1, .ref o), (0, .ref b)] [] h' k n) : WP G m_Law_law B 386 [(4, .int (nI (7 * t))), (3, .ref out), (2, .ref om), (1, .ref o), (0, .ref b)] [] h (k + stepK t) (n + stepN t) := by
  obtain ⟨s, hc, v, Fi, M, Ml, rfl, dj1, dj2, ok, rp, hV, hms⟩ := hJ
  have hm2 := hV.2.1.2.2.2.2.2.2.1
  have hcd := cd_send s (xs (7 * t + 1)) (xs (7 * t + 2))
  refine wp_bud (k' := k + (0 + 1)) (n' := n + (0 + 6)) (by unfold stepK; omega) (by unfold stepN; omega) ?_
  refine wp_aload_n d_Law_law_386 rfl 3 rfl ?_
  refine wp_aload_n d_Law_law_387 rfl 4 rfl ?_
  refine wp_iload d_Law_law_388 0 rfl ?_
  refine wp_iconst (v := nI 1) d_Law_law_390 (by decide) ?_
  refine wp_iaddN d_Law_law_391 ?_
  refine wp_sild d_Law_law_392 hX hb (by omega) hL ?_
  refine wp_aload_n d_Law_law_393 rfl 4 rfl ?_
  refine wp_iload d_Law_law_394 0 rfl ?_
  refine wp_iconst (v := nI 2) d_Law_law_396 (by decide) ?_
  refine wp_iaddN d_Law_law_397 ?_
  refine wp_sild d_Law_law_398 hX hb (by omega) hL ?_
  refine wp_aload_n d_Law_law_399 rfl 1 rfl ?_
  refine wp_callL (k' := (0 + 1)) (n' := (0 + 6)) (r := 0) d_Law_law_400 (link_S (av := [.ref o, .int (xs ((7 * t) + 1)), .int (xs ((7 * t) + 2)), .ref out]) (rest := []) d_Law_law_400 cal_Law_send wM_Law_90 rfl) cal_Law_send (l_send ok hV dj1 (xs (7 * t + 1)) (xs (7 * t + 2))) dj2 (Nat.le_of_ble_eq_true rfl) ⟨Nat.le_trans (Nat.le_of_ble_eq_true rfl) hB.1, Nat.le_trans (Nat.le_of_ble_eq_true rfl) hB.2⟩ (fun hc' v' dj1' dj2' ok' pv => ?_)
  refine wp_istore (lv' := [(5, .int (nI ((stSend s (xs (7 * t + 1)) (xs (7 * t + 2))).1))), (4, .int (nI (7 * t))), (3, .ref out), (2, .ref om), (1, .ref o), (0, .ref b)]) d_Law_law_403 (by decide) rfl ?_
  refine wp_aload_n d_Law_law_405 rfl 3 rfl ?_
  refine wp_aload_n d_Law_law_406 rfl 5 rfl ?_
  refine wp_iload d_Law_law_407 1 rfl ?_
  refine wp_iconst (v := nI 1) d_Law_law_409 (by decide) ?_
  refine wp_iaddN d_Law_law_410 ?_
  refine wp_sild d_Law_law_411 hX hb (by omega) hL ?_
  refine wp_aload_n d_Law_law_412 rfl 5 rfl ?_
  refine wp_iload d_Law_law_413 1 rfl ?_
  refine wp_iconst (v := nI 2) d_Law_law_415 (by decide) ?_
  refine wp_iaddN d_Law_law_416 ?_
  refine wp_sild d_Law_law_417 hX hb (by omega) hL ?_
  refine wp_callM (a := (stSend s (xs (7 * t + 1)) (xs (7 * t + 2)))) (r := 0) d_Law_law_418 (link_V (as := [.int (xs ((7 * t) + 1)), .int (xs ((7 * t) + 2))]) (rest := []) (r := (R_Mod, T_Mod, 43)) d_Law_law_418 cal_Mod_send wM_Law_92 rfl (by rw [hor_comm dj2']; exact hor_l hM_o) rfl) cal_Mod_send (c_Mod_send hI rp hV (by omega) (xs (7 * t + 1)) (xs (7 * t + 2))) dj2' (Nat.le_of_ble_eq_true rfl) ⟨Nat.le_trans (Nat.le_of_ble_eq_true rfl) hB.1, Nat.le_trans (Nat.le_of_ble_eq_true rfl) hB.2⟩ (fun Fi' M' Ml' rp' f0' dj3 => ?_)
  show WP G m_Law_law B 421 _ (.int (stSend s (xs (7 * t + 1)) (xs (7 * t + 2))).2.1 :: []) _ _ _
  refine wp_istore (lv' := [(6, .int ((stSend s (xs (7 * t + 1)) (xs (7 * t + 2))).2.1)), (5, .int (nI ((stSend s (xs (7 * t + 1)) (xs (7 * t + 2))).1))), (4, .int (nI (7 * t))), (3, .ref out), (2, .ref om), (1, .ref o), (0, .ref b)]) d_Law_law_421 (by decide) rfl ?_
  refine wp_aload_n d_Law_law_423 rfl 4 rfl ?_
  refine wp_callMR (r := 0) d_Law_law_424 (link_V (as := []) (rest := []) (r := (R_Mod, T_Mod, 43)) d_Law_law_424 cal_Mod_thrown wM_Law_74 rfl (by rw [hor_comm dj3]; exact hor_l hM_o) rfl) cal_Mod_thrown c_Mod_thrown dj3 (Nat.le_of_ble_eq_true rfl) ⟨Nat.le_trans (Nat.le_of_ble_eq_true rfl) hB.1, Nat.le_trans (Nat.le_of_ble_eq_true rfl) hB.2⟩ ?_
  refine wp_toI (z := nI (stSend s (xs (7 * t + 1)) (xs (7 * t + 2))).1) f0' ?_
  refine wp_iload d_Law_law_427 1 rfl ?_
  refine wp_icmp_eq (tgt := 434) d_Law_law_429 (by decide) (fun _ => ?_) (fun c => absurd rfl c)
  refine wp_iload d_Law_law_434 1 rfl ?_
  refine wp_if_neN (tgt := 451) d_Law_law_436 (by decide) (by omega) (fun c436 => ?_) (fun c436 => ?_)
  · refine wp_goto (tgt := 1115) d_Law_law_451 (by decide) ?_
    refine wp_lv [2, 3, 4, 5, 6] rfl ?_
    exact kk _ ⟨(stSend s (xs (7 * t + 1)) (xs (7 * t + 2))).2.2, hc', v', Fi', M', Ml', rfl, dj1', dj3, ok', rp', iSend hV (by omega) (xs (7 * t + 1)) (xs (7 * t + 2)), by have := msl_send s (xs (7 * t + 1)) (xs (7 * t + 2)); omega⟩
  · refine wp_aload_n d_Law_law_439 rfl 3 rfl ?_
    refine wp_iconst (v := nI 0) d_Law_law_440 (by decide) ?_
    have h0 : (stSend s (xs (7 * t + 1)) (xs (7 * t + 2))).1 = 0 := by omega
    refine wp_lald (t := 1) (N := 1) (f := v') d_Law_law_441 (hor_l (hO_at dj1')) rfl vp_in0 ?_
    refine wp_toL (z := (stSend s (xs (7 * t + 1)) (xs (7 * t + 2))).2.1.toInt64) (pv h0) ?_
    refine wp_iload d_Law_law_442 0 rfl ?_
    refine wp_i2l d_Law_law_444 rfl ?_
    refine wp_lcmp d_Law_law_445 ?_
    refine wp_if_eqC (tgt := 451) d_Law_law_446 (by decide) (fun _ => ?_) (fun c => absurd rfl c)
    refine wp_goto (tgt := 1115) d_Law_law_451 (by decide) ?_
    refine wp_lv [2, 3, 4, 5, 6] rfl ?_
    exact kk _ ⟨(stSend s (xs (7 * t + 1)) (xs (7 * t + 2))).2.2, hc', v', Fi', M', Ml', rfl, dj1', dj3, ok', rp', iSend hV (by omega) (xs (7 * t + 1)) (xs (7 * t + 2)), by have := msl_send s (xs (7 * t + 1)) (xs (7 * t + 2)); omega⟩
set_option maxRecDepth 20000 in
theorem lc_carry {G : Gt} {B : Bt} {b L o om out t k n : Nat} {A : Nat → Nat} {xs : Nat → Int32} {h : AHp} (hS : jOK G) (hI : mInj om A) (hX : va_X b L xs (Gs G) (Gs G).heap) (hb : b < (Gs G).heap.size) (hL : L ≤ 3584) (ht : 7 * t + 7 ≤ L) (hB : 12 ≤ Bd B ∧ 220 ≤ Bw B) (hJ : LJ t o om out A h) (kk : ∀ h', LJ (t + 1) o om out A h' → WP G m_Law_law B 1115 [(4, .int (nI (7 * t))), (3, .ref out), (2, .ref om), (1, .ref o), (0, .ref b)] [] h' k n) : WP G m_Law_law B 454 [(4, .int (nI (7 * t))), (3, .ref out), (2, .ref om), (1, .ref o), (0, .ref b)] [] h (k + stepK t) (n + stepN t) := by
  obtain ⟨s, hc, v, Fi, M, Ml, rfl, dj1, dj2, ok, rp, hV, hms⟩ := hJ
  have hm2 := hV.2.1.2.2.2.2.2.2.1
  have hcd := cd_carry s (xs (7 * t + 1)) (xs (7 * t + 2))
  refine wp_bud (k' := k + (0 + 8)) (n' := n + (0 + 31)) (by unfold stepK; omega) (by unfold stepN; omega) ?_
  refine wp_aload_n d_Law_law_454 rfl 3 rfl ?_
  refine wp_aload_n d_Law_law_455 rfl 4 rfl ?_
  refine wp_iload d_Law_law_456 0 rfl ?_
  refine wp_iconst (v := nI 1) d_Law_law_458 (by decide) ?_
  refine wp_iaddN d_Law_law_459 ?_
  refine wp_sild d_Law_law_460 hX hb (by omega) hL ?_
  refine wp_aload_n d_Law_law_461 rfl 4 rfl ?_
  refine wp_iload d_Law_law_462 0 rfl ?_
  refine wp_iconst (v := nI 2) d_Law_law_464 (by decide) ?_
  refine wp_iaddN d_Law_law_465 ?_
  refine wp_sild d_Law_law_466 hX hb (by omega) hL ?_
  refine wp_aload_n d_Law_law_467 rfl 1 rfl ?_
  refine wp_callL (k' := (0 + 8)) (n' := (0 + 31)) (r := 0) d_Law_law_468 (link_S (av := [.ref o, .int (xs ((7 * t) + 1)), .int (xs ((7 * t) + 2)), .ref out]) (rest := []) d_Law_law_468 cal_Law_carry wM_Law_93 rfl) cal_Law_carry (l_carry ok hV dj1 (xs (7 * t + 1)) (xs (7 * t + 2))) dj2 (Nat.le_of_ble_eq_true rfl) ⟨Nat.le_trans (Nat.le_of_ble_eq_true rfl) hB.1, Nat.le_trans (Nat.le_of_ble_eq_true rfl) hB.2⟩ (fun hc' v' dj1' dj2' ok' pv => ?_)
  refine wp_istore (lv' := [(5, .int (nI ((stCarry s (xs (7 * t + 1)) (xs (7 * t + 2))).1))), (4, .int (nI (7 * t))), (3, .ref out), (2, .ref om), (1, .ref o), (0, .ref b)]) d_Law_law_471 (by decide) rfl ?_
  refine wp_aload_n d_Law_law_473 rfl 3 rfl ?_
  refine wp_aload_n d_Law_law_474 rfl 5 rfl ?_
  refine wp_iload d_Law_law_475 1 rfl ?_
  refine wp_iconst (v := nI 1) d_Law_law_477 (by decide) ?_
  refine wp_iaddN d_Law_law_478 ?_
  refine wp_sild d_Law_law_479 hX hb (by omega) hL ?_
  refine wp_aload_n d_Law_law_480 rfl 5 rfl ?_
  refine wp_iload d_Law_law_481 1 rfl ?_
  refine wp_iconst (v := nI 2) d_Law_law_483 (by decide) ?_
  refine wp_iaddN d_Law_law_484 ?_
  refine wp_sild d_Law_law_485 hX hb (by omega) hL ?_
  refine wp_callM (a := (stCarry s (xs (7 * t + 1)) (xs (7 * t + 2)))) (r := 0) d_Law_law_486 (link_V (as := [.int (xs ((7 * t) + 1)), .int (xs ((7 * t) + 2))]) (rest := []) (r := (R_Mod, T_Mod, 43)) d_Law_law_486 cal_Mod_carry wM_Law_95 rfl (by rw [hor_comm dj2']; exact hor_l hM_o) rfl) cal_Mod_carry (c_Mod_carry hI rp hV (xs (7 * t + 1)) (xs (7 * t + 2))) dj2' (Nat.le_of_ble_eq_true rfl) ⟨Nat.le_trans (Nat.le_of_ble_eq_true rfl) hB.1, Nat.le_trans (Nat.le_of_ble_eq_true rfl) hB.2⟩ (fun Fi' M' Ml' rp' f0' dj3 => ?_)
  show WP G m_Law_law B 489 _ (.int (stCarry s (xs (7 * t + 1)) (xs (7 * t + 2))).2.1 :: []) _ _ _
  refine wp_istore (lv' := [(6, .int ((stCarry s (xs (7 * t + 1)) (xs (7 * t + 2))).2.1)), (5, .int (nI ((stCarry s (xs (7 * t + 1)) (xs (7 * t + 2))).1))), (4, .int (nI (7 * t))), (3, .ref out), (2, .ref om), (1, .ref o), (0, .ref b)]) d_Law_law_489 (by decide) rfl ?_
  refine wp_aload_n d_Law_law_491 rfl 4 rfl ?_
  refine wp_callMR (r := 0) d_Law_law_492 (link_V (as := []) (rest := []) (r := (R_Mod, T_Mod, 43)) d_Law_law_492 cal_Mod_thrown wM_Law_74 rfl (by rw [hor_comm dj3]; exact hor_l hM_o) rfl) cal_Mod_thrown c_Mod_thrown dj3 (Nat.le_of_ble_eq_true rfl) ⟨Nat.le_trans (Nat.le_of_ble_eq_true rfl) hB.1, Nat.le_trans (Nat.le_of_ble_eq_true rfl) hB.2⟩ ?_
  refine wp_toI (z := nI (stCarry s (xs (7 * t + 1)) (xs (7 * t + 2))).1) f0' ?_
  refine wp_iload d_Law_law_495 1 rfl ?_
  refine wp_icmp_eq (tgt := 502) d_Law_law_497 (by decide) (fun _ => ?_) (fun c => absurd rfl c)
  refine wp_iload d_Law_law_502 1 rfl ?_
  refine wp_if_neN (tgt := 519) d_Law_law_504 (by decide) (by omega) (fun c504 => ?_) (fun c504 => ?_)
  · refine wp_goto (tgt := 1115) d_Law_law_519 (by decide) ?_
    refine wp_lv [2, 3, 4, 5, 6] rfl ?_
    exact kk _ ⟨(stCarry s (xs (7 * t + 1)) (xs (7 * t + 2))).2.2, hc', v', Fi', M', Ml', rfl, dj1', dj3, ok', rp', iCarry hV (by omega) (xs (7 * t + 1)) (xs (7 * t + 2)), by have := msl_carry s (xs (7 * t + 1)) (xs (7 * t + 2)); omega⟩
  · refine wp_aload_n d_Law_law_507 rfl 3 rfl ?_
    refine wp_iconst (v := nI 0) d_Law_law_508 (by decide) ?_
    have h0 : (stCarry s (xs (7 * t + 1)) (xs (7 * t + 2))).1 = 0 := by omega
    refine wp_lald (t := 1) (N := 1) (f := v') d_Law_law_509 (hor_l (hO_at dj1')) rfl vp_in0 ?_
    refine wp_toL (z := (stCarry s (xs (7 * t + 1)) (xs (7 * t + 2))).2.1.toInt64) (pv h0) ?_
    refine wp_iload d_Law_law_510 0 rfl ?_
    refine wp_i2l d_Law_law_512 rfl ?_
    refine wp_lcmp d_Law_law_513 ?_
    refine wp_if_eqC (tgt := 519) d_Law_law_514 (by decide) (fun _ => ?_) (fun c => absurd rfl c)
    refine wp_goto (tgt := 1115) d_Law_law_519 (by decide) ?_
    refine wp_lv [2, 3, 4, 5, 6] rfl ?_
    exact kk _ ⟨(stCarry s (xs (7 * t + 1)) (xs (7 * t + 2))).2.2, hc', v', Fi', M', Ml', rfl, dj1', dj3, ok', rp', iCarry hV (by omega) (xs (7 * t + 1)) (xs (7 * t + 2)), by have := msl_carry s (xs (7 * t + 1)) (xs (7 * t + 2)); omega⟩
set_option maxRecDepth 20000 in
theorem lc_disturb {G : Gt} {B : Bt} {b L o om out t k n : Nat} {A : Nat → Nat} {xs : Nat → Int32} {h : AHp} (hS : jOK G) (hI : mInj om A) (hX : va_X b L xs (Gs G) (Gs G).heap) (hb : b < (Gs G).heap.size) (hL : L ≤ 3584) (ht : 7 * t + 7 ≤ L) (hB : 12 ≤ Bd B ∧ 220 ≤ Bw B) (hJ : LJ t o om out A h) (kk : ∀ h', LJ (t + 1) o om out A h' → WP G m_Law_law B 1115 [(4, .int (nI (7 * t))), (3, .ref out), (2, .ref om), (1, .ref o), (0, .ref b)] [] h' k n) : WP G m_Law_law B 522 [(4, .int (nI (7 * t))), (3, .ref out), (2, .ref om), (1, .ref o), (0, .ref b)] [] h (k + stepK t) (n + stepN t) := by
  obtain ⟨s, hc, v, Fi, M, Ml, rfl, dj1, dj2, ok, rp, hV, hms⟩ := hJ
  have hm2 := hV.2.1.2.2.2.2.2.2.1
  have hcd := cd_disturb s (xs (7 * t + 1)) (xs (7 * t + 2)) (xs (7 * t + 3))
  refine wp_bud (k' := k + (0 + 1)) (n' := n + (0 + 6)) (by unfold stepK; omega) (by unfold stepN; omega) ?_
  refine wp_aload_n d_Law_law_522 rfl 3 rfl ?_
  refine wp_aload_n d_Law_law_523 rfl 4 rfl ?_
  refine wp_iload d_Law_law_524 0 rfl ?_
  refine wp_iconst (v := nI 1) d_Law_law_526 (by decide) ?_
  refine wp_iaddN d_Law_law_527 ?_
  refine wp_sild d_Law_law_528 hX hb (by omega) hL ?_
  refine wp_aload_n d_Law_law_529 rfl 4 rfl ?_
  refine wp_iload d_Law_law_530 0 rfl ?_
  refine wp_iconst (v := nI 2) d_Law_law_532 (by decide) ?_
  refine wp_iaddN d_Law_law_533 ?_
  refine wp_sild d_Law_law_534 hX hb (by omega) hL ?_
  refine wp_aload_n d_Law_law_535 rfl 4 rfl ?_
  refine wp_iload d_Law_law_536 0 rfl ?_
  refine wp_iconst (v := nI 3) d_Law_law_538 (by decide) ?_
  refine wp_iaddN d_Law_law_539 ?_
  refine wp_sild d_Law_law_540 hX hb (by omega) hL ?_
  refine wp_aload_n d_Law_law_541 rfl 1 rfl ?_
  refine wp_callL (k' := (0 + 1)) (n' := (0 + 6)) (r := 0) d_Law_law_542 (link_S (av := [.ref o, .int (xs ((7 * t) + 1)), .int (xs ((7 * t) + 2)), .int (xs ((7 * t) + 3)), .ref out]) (rest := []) d_Law_law_542 cal_Law_disturb wM_Law_96 rfl) cal_Law_disturb (l_disturb ok hV dj1 (xs (7 * t + 1)) (xs (7 * t + 2)) (xs (7 * t + 3))) dj2 (Nat.le_of_ble_eq_true rfl) ⟨Nat.le_trans (Nat.le_of_ble_eq_true rfl) hB.1, Nat.le_trans (Nat.le_of_ble_eq_true rfl) hB.2⟩ (fun hc' v' dj1' dj2' ok' pv => ?_)
  refine wp_istore (lv' := [(5, .int (nI ((stDisturb s (xs (7 * t + 1)) (xs (7 * t + 2)) (xs (7 * t + 3))).1))), (4, .int (nI (7 * t))), (3, .ref out), (2, .ref om), (1, .ref o), (0, .ref b)]) d_Law_law_545 (by decide) rfl ?_
  refine wp_aload_n d_Law_law_547 rfl 3 rfl ?_
  refine wp_aload_n d_Law_law_548 rfl 5 rfl ?_
  refine wp_iload d_Law_law_549 1 rfl ?_
  refine wp_iconst (v := nI 1) d_Law_law_551 (by decide) ?_
  refine wp_iaddN d_Law_law_552 ?_
  refine wp_sild d_Law_law_553 hX hb (by omega) hL ?_
  refine wp_aload_n d_Law_law_554 rfl 5 rfl ?_
  refine wp_iload d_Law_law_555 1 rfl ?_
  refine wp_iconst (v := nI 2) d_Law_law_557 (by decide) ?_
  refine wp_iaddN d_Law_law_558 ?_
  refine wp_sild d_Law_law_559 hX hb (by omega) hL ?_
  refine wp_aload_n d_Law_law_560 rfl 5 rfl ?_
  refine wp_iload d_Law_law_561 1 rfl ?_
  refine wp_iconst (v := nI 3) d_Law_law_563 (by decide) ?_
  refine wp_iaddN d_Law_law_564 ?_
  refine wp_sild d_Law_law_565 hX hb (by omega) hL ?_
  refine wp_callM (a := (stDisturb s (xs (7 * t + 1)) (xs (7 * t + 2)) (xs (7 * t + 3)))) (r := 0) d_Law_law_566 (link_V (as := [.int (xs ((7 * t) + 1)), .int (xs ((7 * t) + 2)), .int (xs ((7 * t) + 3))]) (rest := []) (r := (R_Mod, T_Mod, 43)) d_Law_law_566 cal_Mod_disturb wM_Law_99 rfl (by rw [hor_comm dj2']; exact hor_l hM_o) rfl) cal_Mod_disturb (c_Mod_disturb hI rp hV (xs (7 * t + 1)) (xs (7 * t + 2)) (xs (7 * t + 3))) dj2' (Nat.le_of_ble_eq_true rfl) ⟨Nat.le_trans (Nat.le_of_ble_eq_true rfl) hB.1, Nat.le_trans (Nat.le_of_ble_eq_true rfl) hB.2⟩ (fun Fi' M' Ml' rp' f0' dj3 => ?_)
  show WP G m_Law_law B 569 _ (.int (stDisturb s (xs (7 * t + 1)) (xs (7 * t + 2)) (xs (7 * t + 3))).2.1 :: []) _ _ _
  refine wp_istore (lv' := [(6, .int ((stDisturb s (xs (7 * t + 1)) (xs (7 * t + 2)) (xs (7 * t + 3))).2.1)), (5, .int (nI ((stDisturb s (xs (7 * t + 1)) (xs (7 * t + 2)) (xs (7 * t + 3))).1))), (4, .int (nI (7 * t))), (3, .ref out), (2, .ref om), (1, .ref o), (0, .ref b)]) d_Law_law_569 (by decide) rfl ?_
  refine wp_aload_n d_Law_law_571 rfl 4 rfl ?_
  refine wp_callMR (r := 0) d_Law_law_572 (link_V (as := []) (rest := []) (r := (R_Mod, T_Mod, 43)) d_Law_law_572 cal_Mod_thrown wM_Law_74 rfl (by rw [hor_comm dj3]; exact hor_l hM_o) rfl) cal_Mod_thrown c_Mod_thrown dj3 (Nat.le_of_ble_eq_true rfl) ⟨Nat.le_trans (Nat.le_of_ble_eq_true rfl) hB.1, Nat.le_trans (Nat.le_of_ble_eq_true rfl) hB.2⟩ ?_
  refine wp_toI (z := nI (stDisturb s (xs (7 * t + 1)) (xs (7 * t + 2)) (xs (7 * t + 3))).1) f0' ?_
  refine wp_iload d_Law_law_575 1 rfl ?_
  refine wp_icmp_eq (tgt := 582) d_Law_law_577 (by decide) (fun _ => ?_) (fun c => absurd rfl c)
  refine wp_iload d_Law_law_582 1 rfl ?_
  refine wp_if_neN (tgt := 606) d_Law_law_584 (by decide) (by omega) (fun c584 => ?_) (fun c584 => ?_)
  · refine wp_goto (tgt := 1115) d_Law_law_606 (by decide) ?_
    refine wp_lv [2, 3, 4, 5, 6] rfl ?_
    exact kk _ ⟨(stDisturb s (xs (7 * t + 1)) (xs (7 * t + 2)) (xs (7 * t + 3))).2.2, hc', v', Fi', M', Ml', rfl, dj1', dj3, ok', rp', iDisturb hV (by omega) (xs (7 * t + 1)) (xs (7 * t + 2)) (xs (7 * t + 3)), by have := msl_disturb s (xs (7 * t + 1)) (xs (7 * t + 2)) (xs (7 * t + 3)); omega⟩
  · refine wp_aload_n d_Law_law_587 rfl 3 rfl ?_
    refine wp_iconst (v := nI 0) d_Law_law_588 (by decide) ?_
    have h0 : (stDisturb s (xs (7 * t + 1)) (xs (7 * t + 2)) (xs (7 * t + 3))).1 = 0 := by omega
    refine wp_lald (t := 1) (N := 1) (f := v') d_Law_law_589 (hor_l (hO_at dj1')) rfl vp_in0 ?_
    refine wp_toL (z := (if (stDisturb s (xs (7 * t + 1)) (xs (7 * t + 2)) (xs (7 * t + 3))).2.1 = 0 then 0 else 1)) (pv h0) ?_
    refine wp_iload d_Law_law_590 0 rfl ?_
    refine wp_if_eq (tgt := 599) d_Law_law_592 (by decide) (fun c592 => ?_) (fun c592 => ?_)
    · refine wp_lconst (v := lN 0) d_Law_law_599 (by decide) ?_
      refine wp_lcmp d_Law_law_600 ?_
      refine wp_if_eqC (tgt := 606) d_Law_law_601 (by decide) (fun _ => ?_) (fun c => absurd (by first | (rw [if_pos c592]; rfl) | (rw [if_neg c592]; rfl)) c)
      refine wp_goto (tgt := 1115) d_Law_law_606 (by decide) ?_
      refine wp_lv [2, 3, 4, 5, 6] rfl ?_
      exact kk _ ⟨(stDisturb s (xs (7 * t + 1)) (xs (7 * t + 2)) (xs (7 * t + 3))).2.2, hc', v', Fi', M', Ml', rfl, dj1', dj3, ok', rp', iDisturb hV (by omega) (xs (7 * t + 1)) (xs (7 * t + 2)) (xs (7 * t + 3)), by have := msl_disturb s (xs (7 * t + 1)) (xs (7 * t + 2)) (xs (7 * t + 3)); omega⟩
    · refine wp_lconst (v := lN 1) d_Law_law_595 (by decide) ?_
      refine wp_goto (tgt := 600) d_Law_law_596 (by decide) ?_
      refine wp_lcmp d_Law_law_600 ?_
      refine wp_if_eqC (tgt := 606) d_Law_law_601 (by decide) (fun _ => ?_) (fun c => absurd (by first | (rw [if_pos c592]; rfl) | (rw [if_neg c592]; rfl)) c)
      refine wp_goto (tgt := 1115) d_Law_law_606 (by decide) ?_
      refine wp_lv [2, 3, 4, 5, 6] rfl ?_
      exact kk _ ⟨(stDisturb s (xs (7 * t + 1)) (xs (7 * t + 2)) (xs (7 * t + 3))).2.2, hc', v', Fi', M', Ml', rfl, dj1', dj3, ok', rp', iDisturb hV (by omega) (xs (7 * t + 1)) (xs (7 * t + 2)) (xs (7 * t + 3)), by have := msl_disturb s (xs (7 * t + 1)) (xs (7 * t + 2)) (xs (7 * t + 3)); omega⟩
set_option maxRecDepth 20000 in
theorem lc_serve1 {G : Gt} {B : Bt} {b L o om out t k n : Nat} {A : Nat → Nat} {xs : Nat → Int32} {h : AHp} (hS : jOK G) (hI : mInj om A) (hX : va_X b L xs (Gs G) (Gs G).heap) (hb : b < (Gs G).heap.size) (hL : L ≤ 3584) (ht : 7 * t + 7 ≤ L) (hB : 12 ≤ Bd B ∧ 220 ≤ Bw B) (hz : ¬ xs (7 * t + 2) = 0) (hJ : LJ t o om out A h) (kk : ∀ h', LJ (t + 1) o om out A h' → WP G m_Law_law B 1115 [(4, .int (nI (7 * t))), (3, .ref out), (2, .ref om), (1, .ref o), (0, .ref b)] [] h' k n) : WP G m_Law_law B 609 [(4, .int (nI (7 * t))), (3, .ref out), (2, .ref om), (1, .ref o), (0, .ref b)] [] h (k + stepK t) (n + stepN t) := by
  obtain ⟨s, hc, v, Fi, M, Ml, rfl, dj1, dj2, ok, rp, hV, hms⟩ := hJ
  have hm2 := hV.2.1.2.2.2.2.2.2.1
  have hcd := cd_serve s (xs (7 * t + 1)) true
  refine wp_bud (k' := k + (0 + (7 * (sMs s).length + 1))) (n' := n + (0 + (28 * (sMs s).length + 6))) (by unfold stepK; omega) (by unfold stepN; omega) ?_
  refine wp_aload_n d_Law_law_609 rfl 3 rfl ?_
  refine wp_aload_n d_Law_law_610 rfl 4 rfl ?_
  refine wp_iload d_Law_law_611 0 rfl ?_
  refine wp_iconst (v := nI 1) d_Law_law_613 (by decide) ?_
  refine wp_iaddN d_Law_law_614 ?_
  refine wp_sild d_Law_law_615 hX hb (by omega) hL ?_
  refine wp_aload_n d_Law_law_616 rfl 4 rfl ?_
  refine wp_iload d_Law_law_617 0 rfl ?_
  refine wp_iconst (v := nI 2) d_Law_law_619 (by decide) ?_
  refine wp_iaddN d_Law_law_620 ?_
  refine wp_sild d_Law_law_621 hX hb (by omega) hL ?_
  refine wp_if_eq (tgt := 629) d_Law_law_622 (by decide) (fun c => absurd c hz) (fun _ => ?_)
  refine wp_iconst (v := nI 1) d_Law_law_625 (by decide) ?_
  refine wp_goto (tgt := 630) d_Law_law_626 (by decide) ?_
  refine wp_aload_n d_Law_law_630 rfl 1 rfl ?_
  refine wp_callL (k' := (0 + (7 * (sMs s).length + 1))) (n' := (0 + (28 * (sMs s).length + 6))) (r := 0) d_Law_law_631 (link_S (av := [.ref o, .int (xs ((7 * t) + 1)), .int (bI true), .ref out]) (rest := []) d_Law_law_631 cal_Law_serve wM_Law_100 rfl) cal_Law_serve (l_serve ok hV dj1 (xs (7 * t + 1)) true) dj2 (Nat.le_of_ble_eq_true rfl) ⟨Nat.le_trans (Nat.le_of_ble_eq_true rfl) hB.1, Nat.le_trans (Nat.le_of_ble_eq_true rfl) hB.2⟩ (fun hc' v' dj1' dj2' ok' pv => ?_)
  refine wp_istore (lv' := [(5, .int (nI ((stServe s (xs (7 * t + 1)) true).1))), (4, .int (nI (7 * t))), (3, .ref out), (2, .ref om), (1, .ref o), (0, .ref b)]) d_Law_law_634 (by decide) rfl ?_
  refine wp_aload_n d_Law_law_636 rfl 3 rfl ?_
  refine wp_aload_n d_Law_law_637 rfl 5 rfl ?_
  refine wp_iload d_Law_law_638 1 rfl ?_
  refine wp_iconst (v := nI 1) d_Law_law_640 (by decide) ?_
  refine wp_iaddN d_Law_law_641 ?_
  refine wp_sild d_Law_law_642 hX hb (by omega) hL ?_
  refine wp_aload_n d_Law_law_643 rfl 5 rfl ?_
  refine wp_iload d_Law_law_644 1 rfl ?_
  refine wp_iconst (v := nI 2) d_Law_law_646 (by decide) ?_
  refine wp_iaddN d_Law_law_647 ?_
  refine wp_sild d_Law_law_648 hX hb (by omega) hL ?_
  refine wp_if_eq (tgt := 656) d_Law_law_649 (by decide) (fun c => absurd c hz) (fun _ => ?_)
  refine wp_iconst (v := nI 1) d_Law_law_652 (by decide) ?_
  refine wp_goto (tgt := 657) d_Law_law_653 (by decide) ?_
  refine wp_callM (a := (stServe s (xs (7 * t + 1)) true)) (r := 0) d_Law_law_657 (link_V (as := [.int (xs ((7 * t) + 1)), .int (bI true)]) (rest := []) (r := (R_Mod, T_Mod, 43)) d_Law_law_657 cal_Mod_serve wM_Law_103 rfl (by rw [hor_comm dj2']; exact hor_l hM_o) rfl) cal_Mod_serve (c_Mod_serve hI rp hV (xs (7 * t + 1)) true) dj2' (Nat.le_of_ble_eq_true rfl) ⟨Nat.le_trans (Nat.le_of_ble_eq_true rfl) hB.1, Nat.le_trans (Nat.le_of_ble_eq_true rfl) hB.2⟩ (fun Fi' M' Ml' rp' f0' dj3 => ?_)
  show WP G m_Law_law B 660 _ (.int (stServe s (xs (7 * t + 1)) true).2.1 :: []) _ _ _
  refine wp_istore (lv' := [(6, .int ((stServe s (xs (7 * t + 1)) true).2.1)), (5, .int (nI ((stServe s (xs (7 * t + 1)) true).1))), (4, .int (nI (7 * t))), (3, .ref out), (2, .ref om), (1, .ref o), (0, .ref b)]) d_Law_law_660 (by decide) rfl ?_
  refine wp_aload_n d_Law_law_662 rfl 4 rfl ?_
  refine wp_callMR (r := 0) d_Law_law_663 (link_V (as := []) (rest := []) (r := (R_Mod, T_Mod, 43)) d_Law_law_663 cal_Mod_thrown wM_Law_74 rfl (by rw [hor_comm dj3]; exact hor_l hM_o) rfl) cal_Mod_thrown c_Mod_thrown dj3 (Nat.le_of_ble_eq_true rfl) ⟨Nat.le_trans (Nat.le_of_ble_eq_true rfl) hB.1, Nat.le_trans (Nat.le_of_ble_eq_true rfl) hB.2⟩ ?_
  refine wp_toI (z := nI (stServe s (xs (7 * t + 1)) true).1) f0' ?_
  refine wp_iload d_Law_law_666 1 rfl ?_
  refine wp_icmp_eq (tgt := 673) d_Law_law_668 (by decide) (fun _ => ?_) (fun c => absurd rfl c)
  refine wp_iload d_Law_law_673 1 rfl ?_
  refine wp_if_neN (tgt := 697) d_Law_law_675 (by decide) (by omega) (fun c675 => ?_) (fun c675 => ?_)
  · refine wp_goto (tgt := 1115) d_Law_law_697 (by decide) ?_
    refine wp_lv [2, 3, 4, 5, 6] rfl ?_
    exact kk _ ⟨(stServe s (xs (7 * t + 1)) true).2.2, hc', v', Fi', M', Ml', rfl, dj1', dj3, ok', rp', iServe hV (by omega) (xs (7 * t + 1)) true, by have := msl_serve s (xs (7 * t + 1)) true; omega⟩
  · refine wp_aload_n d_Law_law_678 rfl 3 rfl ?_
    refine wp_iconst (v := nI 0) d_Law_law_679 (by decide) ?_
    have h0 : (stServe s (xs (7 * t + 1)) true).1 = 0 := by omega
    refine wp_lald (t := 1) (N := 1) (f := v') d_Law_law_680 (hor_l (hO_at dj1')) rfl vp_in0 ?_
    refine wp_toL (z := (if (stServe s (xs (7 * t + 1)) true).2.1 = 0 then 0 else 1)) (pv h0) ?_
    refine wp_iload d_Law_law_681 0 rfl ?_
    refine wp_if_eq (tgt := 690) d_Law_law_683 (by decide) (fun c683 => ?_) (fun c683 => ?_)
    · refine wp_lconst (v := lN 0) d_Law_law_690 (by decide) ?_
      refine wp_lcmp d_Law_law_691 ?_
      refine wp_if_eqC (tgt := 697) d_Law_law_692 (by decide) (fun _ => ?_) (fun c => absurd (by first | (rw [if_pos c683]; rfl) | (rw [if_neg c683]; rfl)) c)
      refine wp_goto (tgt := 1115) d_Law_law_697 (by decide) ?_
      refine wp_lv [2, 3, 4, 5, 6] rfl ?_
      exact kk _ ⟨(stServe s (xs (7 * t + 1)) true).2.2, hc', v', Fi', M', Ml', rfl, dj1', dj3, ok', rp', iServe hV (by omega) (xs (7 * t + 1)) true, by have := msl_serve s (xs (7 * t + 1)) true; omega⟩
    · refine wp_lconst (v := lN 1) d_Law_law_686 (by decide) ?_
      refine wp_goto (tgt := 691) d_Law_law_687 (by decide) ?_
      refine wp_lcmp d_Law_law_691 ?_
      refine wp_if_eqC (tgt := 697) d_Law_law_692 (by decide) (fun _ => ?_) (fun c => absurd (by first | (rw [if_pos c683]; rfl) | (rw [if_neg c683]; rfl)) c)
      refine wp_goto (tgt := 1115) d_Law_law_697 (by decide) ?_
      refine wp_lv [2, 3, 4, 5, 6] rfl ?_
      exact kk _ ⟨(stServe s (xs (7 * t + 1)) true).2.2, hc', v', Fi', M', Ml', rfl, dj1', dj3, ok', rp', iServe hV (by omega) (xs (7 * t + 1)) true, by have := msl_serve s (xs (7 * t + 1)) true; omega⟩
set_option maxRecDepth 20000 in
theorem lc_serve0 {G : Gt} {B : Bt} {b L o om out t k n : Nat} {A : Nat → Nat} {xs : Nat → Int32} {h : AHp} (hS : jOK G) (hI : mInj om A) (hX : va_X b L xs (Gs G) (Gs G).heap) (hb : b < (Gs G).heap.size) (hL : L ≤ 3584) (ht : 7 * t + 7 ≤ L) (hB : 12 ≤ Bd B ∧ 220 ≤ Bw B) (hz : xs (7 * t + 2) = 0) (hJ : LJ t o om out A h) (kk : ∀ h', LJ (t + 1) o om out A h' → WP G m_Law_law B 1115 [(4, .int (nI (7 * t))), (3, .ref out), (2, .ref om), (1, .ref o), (0, .ref b)] [] h' k n) : WP G m_Law_law B 609 [(4, .int (nI (7 * t))), (3, .ref out), (2, .ref om), (1, .ref o), (0, .ref b)] [] h (k + stepK t) (n + stepN t) := by
  obtain ⟨s, hc, v, Fi, M, Ml, rfl, dj1, dj2, ok, rp, hV, hms⟩ := hJ
  have hm2 := hV.2.1.2.2.2.2.2.2.1
  have hcd := cd_serve s (xs (7 * t + 1)) false
  refine wp_bud (k' := k + (0 + (7 * (sMs s).length + 1))) (n' := n + (0 + (28 * (sMs s).length + 6))) (by unfold stepK; omega) (by unfold stepN; omega) ?_
  refine wp_aload_n d_Law_law_609 rfl 3 rfl ?_
  refine wp_aload_n d_Law_law_610 rfl 4 rfl ?_
  refine wp_iload d_Law_law_611 0 rfl ?_
  refine wp_iconst (v := nI 1) d_Law_law_613 (by decide) ?_
  refine wp_iaddN d_Law_law_614 ?_
  refine wp_sild d_Law_law_615 hX hb (by omega) hL ?_
  refine wp_aload_n d_Law_law_616 rfl 4 rfl ?_
  refine wp_iload d_Law_law_617 0 rfl ?_
  refine wp_iconst (v := nI 2) d_Law_law_619 (by decide) ?_
  refine wp_iaddN d_Law_law_620 ?_
  refine wp_sild d_Law_law_621 hX hb (by omega) hL ?_
  refine wp_if_eq (tgt := 629) d_Law_law_622 (by decide) (fun _ => ?_) (fun c => absurd hz c)
  refine wp_iconst (v := nI 0) d_Law_law_629 (by decide) ?_
  refine wp_aload_n d_Law_law_630 rfl 1 rfl ?_
  refine wp_callL (k' := (0 + (7 * (sMs s).length + 1))) (n' := (0 + (28 * (sMs s).length + 6))) (r := 0) d_Law_law_631 (link_S (av := [.ref o, .int (xs ((7 * t) + 1)), .int (bI false), .ref out]) (rest := []) d_Law_law_631 cal_Law_serve wM_Law_100 rfl) cal_Law_serve (l_serve ok hV dj1 (xs (7 * t + 1)) false) dj2 (Nat.le_of_ble_eq_true rfl) ⟨Nat.le_trans (Nat.le_of_ble_eq_true rfl) hB.1, Nat.le_trans (Nat.le_of_ble_eq_true rfl) hB.2⟩ (fun hc' v' dj1' dj2' ok' pv => ?_)
  refine wp_istore (lv' := [(5, .int (nI ((stServe s (xs (7 * t + 1)) false).1))), (4, .int (nI (7 * t))), (3, .ref out), (2, .ref om), (1, .ref o), (0, .ref b)]) d_Law_law_634 (by decide) rfl ?_
  refine wp_aload_n d_Law_law_636 rfl 3 rfl ?_
  refine wp_aload_n d_Law_law_637 rfl 5 rfl ?_
  refine wp_iload d_Law_law_638 1 rfl ?_
  refine wp_iconst (v := nI 1) d_Law_law_640 (by decide) ?_
  refine wp_iaddN d_Law_law_641 ?_
  refine wp_sild d_Law_law_642 hX hb (by omega) hL ?_
  refine wp_aload_n d_Law_law_643 rfl 5 rfl ?_
  refine wp_iload d_Law_law_644 1 rfl ?_
  refine wp_iconst (v := nI 2) d_Law_law_646 (by decide) ?_
  refine wp_iaddN d_Law_law_647 ?_
  refine wp_sild d_Law_law_648 hX hb (by omega) hL ?_
  refine wp_if_eq (tgt := 656) d_Law_law_649 (by decide) (fun _ => ?_) (fun c => absurd hz c)
  refine wp_iconst (v := nI 0) d_Law_law_656 (by decide) ?_
  refine wp_callM (a := (stServe s (xs (7 * t + 1)) false)) (r := 0) d_Law_law_657 (link_V (as := [.int (xs ((7 * t) + 1)), .int (bI false)]) (rest := []) (r := (R_Mod, T_Mod, 43)) d_Law_law_657 cal_Mod_serve wM_Law_103 rfl (by rw [hor_comm dj2']; exact hor_l hM_o) rfl) cal_Mod_serve (c_Mod_serve hI rp hV (xs (7 * t + 1)) false) dj2' (Nat.le_of_ble_eq_true rfl) ⟨Nat.le_trans (Nat.le_of_ble_eq_true rfl) hB.1, Nat.le_trans (Nat.le_of_ble_eq_true rfl) hB.2⟩ (fun Fi' M' Ml' rp' f0' dj3 => ?_)
  show WP G m_Law_law B 660 _ (.int (stServe s (xs (7 * t + 1)) false).2.1 :: []) _ _ _
  refine wp_istore (lv' := [(6, .int ((stServe s (xs (7 * t + 1)) false).2.1)), (5, .int (nI ((stServe s (xs (7 * t + 1)) false).1))), (4, .int (nI (7 * t))), (3, .ref out), (2, .ref om), (1, .ref o), (0, .ref b)]) d_Law_law_660 (by decide) rfl ?_
  refine wp_aload_n d_Law_law_662 rfl 4 rfl ?_
  refine wp_callMR (r := 0) d_Law_law_663 (link_V (as := []) (rest := []) (r := (R_Mod, T_Mod, 43)) d_Law_law_663 cal_Mod_thrown wM_Law_74 rfl (by rw [hor_comm dj3]; exact hor_l hM_o) rfl) cal_Mod_thrown c_Mod_thrown dj3 (Nat.le_of_ble_eq_true rfl) ⟨Nat.le_trans (Nat.le_of_ble_eq_true rfl) hB.1, Nat.le_trans (Nat.le_of_ble_eq_true rfl) hB.2⟩ ?_
  refine wp_toI (z := nI (stServe s (xs (7 * t + 1)) false).1) f0' ?_
  refine wp_iload d_Law_law_666 1 rfl ?_
  refine wp_icmp_eq (tgt := 673) d_Law_law_668 (by decide) (fun _ => ?_) (fun c => absurd rfl c)
  refine wp_iload d_Law_law_673 1 rfl ?_
  refine wp_if_neN (tgt := 697) d_Law_law_675 (by decide) (by omega) (fun c675 => ?_) (fun c675 => ?_)
  · refine wp_goto (tgt := 1115) d_Law_law_697 (by decide) ?_
    refine wp_lv [2, 3, 4, 5, 6] rfl ?_
    exact kk _ ⟨(stServe s (xs (7 * t + 1)) false).2.2, hc', v', Fi', M', Ml', rfl, dj1', dj3, ok', rp', iServe hV (by omega) (xs (7 * t + 1)) false, by have := msl_serve s (xs (7 * t + 1)) false; omega⟩
  · refine wp_aload_n d_Law_law_678 rfl 3 rfl ?_
    refine wp_iconst (v := nI 0) d_Law_law_679 (by decide) ?_
    have h0 : (stServe s (xs (7 * t + 1)) false).1 = 0 := by omega
    refine wp_lald (t := 1) (N := 1) (f := v') d_Law_law_680 (hor_l (hO_at dj1')) rfl vp_in0 ?_
    refine wp_toL (z := (if (stServe s (xs (7 * t + 1)) false).2.1 = 0 then 0 else 1)) (pv h0) ?_
    refine wp_iload d_Law_law_681 0 rfl ?_
    refine wp_if_eq (tgt := 690) d_Law_law_683 (by decide) (fun c683 => ?_) (fun c683 => ?_)
    · refine wp_lconst (v := lN 0) d_Law_law_690 (by decide) ?_
      refine wp_lcmp d_Law_law_691 ?_
      refine wp_if_eqC (tgt := 697) d_Law_law_692 (by decide) (fun _ => ?_) (fun c => absurd (by first | (rw [if_pos c683]; rfl) | (rw [if_neg c683]; rfl)) c)
      refine wp_goto (tgt := 1115) d_Law_law_697 (by decide) ?_
      refine wp_lv [2, 3, 4, 5, 6] rfl ?_
      exact kk _ ⟨(stServe s (xs (7 * t + 1)) false).2.2, hc', v', Fi', M', Ml', rfl, dj1', dj3, ok', rp', iServe hV (by omega) (xs (7 * t + 1)) false, by have := msl_serve s (xs (7 * t + 1)) false; omega⟩
    · refine wp_lconst (v := lN 1) d_Law_law_686 (by decide) ?_
      refine wp_goto (tgt := 691) d_Law_law_687 (by decide) ?_
      refine wp_lcmp d_Law_law_691 ?_
      refine wp_if_eqC (tgt := 697) d_Law_law_692 (by decide) (fun _ => ?_) (fun c => absurd (by first | (rw [if_pos c683]; rfl) | (rw [if_neg c683]; rfl)) c)
      refine wp_goto (tgt := 1115) d_Law_law_697 (by decide) ?_
      refine wp_lv [2, 3, 4, 5, 6] rfl ?_
      exact kk _ ⟨(stServe s (xs (7 * t + 1)) false).2.2, hc', v', Fi', M', Ml', rfl, dj1', dj3, ok', rp', iServe hV (by omega) (xs (7 * t + 1)) false, by have := msl_serve s (xs (7 * t + 1)) false; omega⟩
set_option maxRecDepth 20000 in
theorem lc_time {G : Gt} {B : Bt} {b L o om out t k n : Nat} {A : Nat → Nat} {xs : Nat → Int32} {h : AHp} (hS : jOK G) (hI : mInj om A) (hX : va_X b L xs (Gs G) (Gs G).heap) (hb : b < (Gs G).heap.size) (hL : L ≤ 3584) (ht : 7 * t + 7 ≤ L) (hB : 12 ≤ Bd B ∧ 220 ≤ Bw B) (hJ : LJ t o om out A h) (kk : ∀ h', LJ (t + 1) o om out A h' → WP G m_Law_law B 1115 [(4, .int (nI (7 * t))), (3, .ref out), (2, .ref om), (1, .ref o), (0, .ref b)] [] h' k n) : WP G m_Law_law B 700 [(4, .int (nI (7 * t))), (3, .ref out), (2, .ref om), (1, .ref o), (0, .ref b)] [] h (k + stepK t) (n + stepN t) := by
  obtain ⟨s, hc, v, Fi, M, Ml, rfl, dj1, dj2, ok, rp, hV, hms⟩ := hJ
  have hm2 := hV.2.1.2.2.2.2.2.2.1
  have hcd := cd_time s (xs (7 * t + 1))
  refine wp_bud (k' := k + (0 + 1)) (n' := n + (0 + 6)) (by unfold stepK; omega) (by unfold stepN; omega) ?_
  refine wp_aload_n d_Law_law_700 rfl 3 rfl ?_
  refine wp_aload_n d_Law_law_701 rfl 4 rfl ?_
  refine wp_iload d_Law_law_702 0 rfl ?_
  refine wp_iconst (v := nI 1) d_Law_law_704 (by decide) ?_
  refine wp_iaddN d_Law_law_705 ?_
  refine wp_sild d_Law_law_706 hX hb (by omega) hL ?_
  refine wp_aload_n d_Law_law_707 rfl 1 rfl ?_
  refine wp_callL (k' := (0 + 1)) (n' := (0 + 6)) (r := 0) d_Law_law_708 (link_S (av := [.ref o, .int (xs ((7 * t) + 1)), .ref out]) (rest := []) d_Law_law_708 cal_Law_time wM_Law_104 rfl) cal_Law_time (l_time ok hV dj1 (xs (7 * t + 1))) dj2 (Nat.le_of_ble_eq_true rfl) ⟨Nat.le_trans (Nat.le_of_ble_eq_true rfl) hB.1, Nat.le_trans (Nat.le_of_ble_eq_true rfl) hB.2⟩ (fun hc' v' dj1' dj2' ok' pv => ?_)
  refine wp_istore (lv' := [(5, .int (nI ((stTime s (xs (7 * t + 1))).1))), (4, .int (nI (7 * t))), (3, .ref out), (2, .ref om), (1, .ref o), (0, .ref b)]) d_Law_law_711 (by decide) rfl ?_
  refine wp_aload_n d_Law_law_713 rfl 3 rfl ?_
  refine wp_aload_n d_Law_law_714 rfl 5 rfl ?_
  refine wp_iload d_Law_law_715 1 rfl ?_
  refine wp_iconst (v := nI 1) d_Law_law_717 (by decide) ?_
  refine wp_iaddN d_Law_law_718 ?_
  refine wp_sild d_Law_law_719 hX hb (by omega) hL ?_
  refine wp_callM (a := (stTime s (xs (7 * t + 1)))) (r := 0) d_Law_law_720 (link_V (as := [.int (xs ((7 * t) + 1))]) (rest := []) (r := (R_Mod, T_Mod, 43)) d_Law_law_720 cal_Mod_time wM_Law_107 rfl (by rw [hor_comm dj2']; exact hor_l hM_o) rfl) cal_Mod_time (c_Mod_time hI rp hV (xs (7 * t + 1))) dj2' (Nat.le_of_ble_eq_true rfl) ⟨Nat.le_trans (Nat.le_of_ble_eq_true rfl) hB.1, Nat.le_trans (Nat.le_of_ble_eq_true rfl) hB.2⟩ (fun Fi' M' Ml' rp' f0' dj3 => ?_)
  show WP G m_Law_law B 723 _ (.int (stTime s (xs (7 * t + 1))).2.1 :: []) _ _ _
  refine wp_istore (lv' := [(6, .int ((stTime s (xs (7 * t + 1))).2.1)), (5, .int (nI ((stTime s (xs (7 * t + 1))).1))), (4, .int (nI (7 * t))), (3, .ref out), (2, .ref om), (1, .ref o), (0, .ref b)]) d_Law_law_723 (by decide) rfl ?_
  refine wp_aload_n d_Law_law_725 rfl 4 rfl ?_
  refine wp_callMR (r := 0) d_Law_law_726 (link_V (as := []) (rest := []) (r := (R_Mod, T_Mod, 43)) d_Law_law_726 cal_Mod_thrown wM_Law_74 rfl (by rw [hor_comm dj3]; exact hor_l hM_o) rfl) cal_Mod_thrown c_Mod_thrown dj3 (Nat.le_of_ble_eq_true rfl) ⟨Nat.le_trans (Nat.le_of_ble_eq_true rfl) hB.1, Nat.le_trans (Nat.le_of_ble_eq_true rfl) hB.2⟩ ?_
  refine wp_toI (z := nI (stTime s (xs (7 * t + 1))).1) f0' ?_
  refine wp_iload d_Law_law_729 1 rfl ?_
  refine wp_icmp_eq (tgt := 736) d_Law_law_731 (by decide) (fun _ => ?_) (fun c => absurd rfl c)
  refine wp_iload d_Law_law_736 1 rfl ?_
  refine wp_if_neN (tgt := 753) d_Law_law_738 (by decide) (by omega) (fun c738 => ?_) (fun c738 => ?_)
  · refine wp_goto (tgt := 1115) d_Law_law_753 (by decide) ?_
    refine wp_lv [2, 3, 4, 5, 6] rfl ?_
    exact kk _ ⟨(stTime s (xs (7 * t + 1))).2.2, hc', v', Fi', M', Ml', rfl, dj1', dj3, ok', rp', iTime hV (by omega) (xs (7 * t + 1)), by have := msl_time s (xs (7 * t + 1)); omega⟩
  · refine wp_aload_n d_Law_law_741 rfl 3 rfl ?_
    refine wp_iconst (v := nI 0) d_Law_law_742 (by decide) ?_
    have h0 : (stTime s (xs (7 * t + 1))).1 = 0 := by omega
    refine wp_lald (t := 1) (N := 1) (f := v') d_Law_law_743 (hor_l (hO_at dj1')) rfl vp_in0 ?_
    refine wp_toL (z := (stTime s (xs (7 * t + 1))).2.1.toInt64) (pv h0) ?_
    refine wp_iload d_Law_law_744 0 rfl ?_
    refine wp_i2l d_Law_law_746 rfl ?_
    refine wp_lcmp d_Law_law_747 ?_
    refine wp_if_eqC (tgt := 753) d_Law_law_748 (by decide) (fun _ => ?_) (fun c => absurd rfl c)
    refine wp_goto (tgt := 1115) d_Law_law_753 (by decide) ?_
    refine wp_lv [2, 3, 4, 5, 6] rfl ?_
    exact kk _ ⟨(stTime s (xs (7 * t + 1))).2.2, hc', v', Fi', M', Ml', rfl, dj1', dj3, ok', rp', iTime hV (by omega) (xs (7 * t + 1)), by have := msl_time s (xs (7 * t + 1)); omega⟩
set_option maxRecDepth 20000 in
theorem lc_delivered {G : Gt} {B : Bt} {b L o om out t k n : Nat} {A : Nat → Nat} {xs : Nat → Int32} {h : AHp} (hS : jOK G) (hI : mInj om A) (hX : va_X b L xs (Gs G) (Gs G).heap) (hb : b < (Gs G).heap.size) (hL : L ≤ 3584) (ht : 7 * t + 7 ≤ L) (hB : 12 ≤ Bd B ∧ 220 ≤ Bw B) (hJ : LJ t o om out A h) (kk : ∀ h', LJ (t + 1) o om out A h' → WP G m_Law_law B 1115 [(4, .int (nI (7 * t))), (3, .ref out), (2, .ref om), (1, .ref o), (0, .ref b)] [] h' k n) : WP G m_Law_law B 756 [(4, .int (nI (7 * t))), (3, .ref out), (2, .ref om), (1, .ref o), (0, .ref b)] [] h (k + stepK t) (n + stepN t) := by
  obtain ⟨s, hc, v, Fi, M, Ml, rfl, dj1, dj2, ok, rp, hV, hms⟩ := hJ
  have hm2 := hV.2.1.2.2.2.2.2.2.1
  have hcd := cd_delivered s (xs (7 * t + 1))
  refine wp_bud (k' := k + (0 + 1)) (n' := n + (0 + 6)) (by unfold stepK; omega) (by unfold stepN; omega) ?_
  refine wp_aload_n d_Law_law_756 rfl 3 rfl ?_
  refine wp_aload_n d_Law_law_757 rfl 4 rfl ?_
  refine wp_iload d_Law_law_758 0 rfl ?_
  refine wp_iconst (v := nI 1) d_Law_law_760 (by decide) ?_
  refine wp_iaddN d_Law_law_761 ?_
  refine wp_sild d_Law_law_762 hX hb (by omega) hL ?_
  refine wp_aload_n d_Law_law_763 rfl 1 rfl ?_
  refine wp_callL (k' := (0 + 1)) (n' := (0 + 6)) (r := 0) d_Law_law_764 (link_S (av := [.ref o, .int (xs ((7 * t) + 1)), .ref out]) (rest := []) d_Law_law_764 cal_Law_delivered wM_Law_108 rfl) cal_Law_delivered (l_delivered ok hV dj1 (xs (7 * t + 1))) dj2 (Nat.le_of_ble_eq_true rfl) ⟨Nat.le_trans (Nat.le_of_ble_eq_true rfl) hB.1, Nat.le_trans (Nat.le_of_ble_eq_true rfl) hB.2⟩ (fun hc' v' dj1' dj2' ok' pv => ?_)
  refine wp_istore (lv' := [(5, .int (nI ((stDelivered s (xs (7 * t + 1))).1))), (4, .int (nI (7 * t))), (3, .ref out), (2, .ref om), (1, .ref o), (0, .ref b)]) d_Law_law_767 (by decide) rfl ?_
  refine wp_aload_n d_Law_law_769 rfl 3 rfl ?_
  refine wp_aload_n d_Law_law_770 rfl 5 rfl ?_
  refine wp_iload d_Law_law_771 1 rfl ?_
  refine wp_iconst (v := nI 1) d_Law_law_773 (by decide) ?_
  refine wp_iaddN d_Law_law_774 ?_
  refine wp_sild d_Law_law_775 hX hb (by omega) hL ?_
  refine wp_callM (a := (stDelivered s (xs (7 * t + 1)))) (r := 0) d_Law_law_776 (link_V (as := [.int (xs ((7 * t) + 1))]) (rest := []) (r := (R_Mod, T_Mod, 43)) d_Law_law_776 cal_Mod_delivered wM_Law_110 rfl (by rw [hor_comm dj2']; exact hor_l hM_o) rfl) cal_Mod_delivered (c_Mod_delivered hI rp (xs (7 * t + 1))) dj2' (Nat.le_of_ble_eq_true rfl) ⟨Nat.le_trans (Nat.le_of_ble_eq_true rfl) hB.1, Nat.le_trans (Nat.le_of_ble_eq_true rfl) hB.2⟩ (fun Fi' M' Ml' rp' f0' dj3 => ?_)
  show WP G m_Law_law B 779 _ (.int (stDelivered s (xs (7 * t + 1))).2.1 :: []) _ _ _
  refine wp_istore (lv' := [(6, .int ((stDelivered s (xs (7 * t + 1))).2.1)), (5, .int (nI ((stDelivered s (xs (7 * t + 1))).1))), (4, .int (nI (7 * t))), (3, .ref out), (2, .ref om), (1, .ref o), (0, .ref b)]) d_Law_law_779 (by decide) rfl ?_
  refine wp_aload_n d_Law_law_781 rfl 4 rfl ?_
  refine wp_callMR (r := 0) d_Law_law_782 (link_V (as := []) (rest := []) (r := (R_Mod, T_Mod, 43)) d_Law_law_782 cal_Mod_thrown wM_Law_74 rfl (by rw [hor_comm dj3]; exact hor_l hM_o) rfl) cal_Mod_thrown c_Mod_thrown dj3 (Nat.le_of_ble_eq_true rfl) ⟨Nat.le_trans (Nat.le_of_ble_eq_true rfl) hB.1, Nat.le_trans (Nat.le_of_ble_eq_true rfl) hB.2⟩ ?_
  refine wp_toI (z := nI (stDelivered s (xs (7 * t + 1))).1) f0' ?_
  refine wp_iload d_Law_law_785 1 rfl ?_
  refine wp_icmp_eq (tgt := 792) d_Law_law_787 (by decide) (fun _ => ?_) (fun c => absurd rfl c)
  refine wp_iload d_Law_law_792 1 rfl ?_
  refine wp_if_neN (tgt := 809) d_Law_law_794 (by decide) (by omega) (fun c794 => ?_) (fun c794 => ?_)
  · refine wp_goto (tgt := 1115) d_Law_law_809 (by decide) ?_
    refine wp_lv [2, 3, 4, 5, 6] rfl ?_
    exact kk _ ⟨(stDelivered s (xs (7 * t + 1))).2.2, hc', v', Fi', M', Ml', rfl, dj1', dj3, ok', rp', iDelivered hV (by omega) (xs (7 * t + 1)), by have := msl_delivered s (xs (7 * t + 1)); omega⟩
  · refine wp_aload_n d_Law_law_797 rfl 3 rfl ?_
    refine wp_iconst (v := nI 0) d_Law_law_798 (by decide) ?_
    have h0 : (stDelivered s (xs (7 * t + 1))).1 = 0 := by omega
    refine wp_lald (t := 1) (N := 1) (f := v') d_Law_law_799 (hor_l (hO_at dj1')) rfl vp_in0 ?_
    refine wp_toL (z := (stDelivered s (xs (7 * t + 1))).2.1.toInt64) (pv h0) ?_
    refine wp_iload d_Law_law_800 0 rfl ?_
    refine wp_i2l d_Law_law_802 rfl ?_
    refine wp_lcmp d_Law_law_803 ?_
    refine wp_if_eqC (tgt := 809) d_Law_law_804 (by decide) (fun _ => ?_) (fun c => absurd rfl c)
    refine wp_goto (tgt := 1115) d_Law_law_809 (by decide) ?_
    refine wp_lv [2, 3, 4, 5, 6] rfl ?_
    exact kk _ ⟨(stDelivered s (xs (7 * t + 1))).2.2, hc', v', Fi', M', Ml', rfl, dj1', dj3, ok', rp', iDelivered hV (by omega) (xs (7 * t + 1)), by have := msl_delivered s (xs (7 * t + 1)); omega⟩
set_option maxRecDepth 20000 in
theorem lc_read {G : Gt} {B : Bt} {b L o om out t k n : Nat} {A : Nat → Nat} {xs : Nat → Int32} {h : AHp} (hS : jOK G) (hI : mInj om A) (hX : va_X b L xs (Gs G) (Gs G).heap) (hb : b < (Gs G).heap.size) (hL : L ≤ 3584) (ht : 7 * t + 7 ≤ L) (hB : 12 ≤ Bd B ∧ 220 ≤ Bw B) (hJ : LJ t o om out A h) (kk : ∀ h', LJ (t + 1) o om out A h' → WP G m_Law_law B 1115 [(4, .int (nI (7 * t))), (3, .ref out), (2, .ref om), (1, .ref o), (0, .ref b)] [] h' k n) : WP G m_Law_law B 812 [(4, .int (nI (7 * t))), (3, .ref out), (2, .ref om), (1, .ref o), (0, .ref b)] [] h (k + stepK t) (n + stepN t) := by
  obtain ⟨s, hc, v, Fi, M, Ml, rfl, dj1, dj2, ok, rp, hV, hms⟩ := hJ
  have hm2 := hV.2.1.2.2.2.2.2.2.1
  have hcd := cd_read s (xs (7 * t + 1)) (xs (7 * t + 2)) (xs (7 * t + 3))
  refine wp_bud (k' := k + (0 + 1)) (n' := n + (0 + 6)) (by unfold stepK; omega) (by unfold stepN; omega) ?_
  refine wp_aload_n d_Law_law_812 rfl 3 rfl ?_
  refine wp_aload_n d_Law_law_813 rfl 4 rfl ?_
  refine wp_iload d_Law_law_814 0 rfl ?_
  refine wp_iconst (v := nI 1) d_Law_law_816 (by decide) ?_
  refine wp_iaddN d_Law_law_817 ?_
  refine wp_sild d_Law_law_818 hX hb (by omega) hL ?_
  refine wp_aload_n d_Law_law_819 rfl 4 rfl ?_
  refine wp_iload d_Law_law_820 0 rfl ?_
  refine wp_iconst (v := nI 2) d_Law_law_822 (by decide) ?_
  refine wp_iaddN d_Law_law_823 ?_
  refine wp_sild d_Law_law_824 hX hb (by omega) hL ?_
  refine wp_aload_n d_Law_law_825 rfl 4 rfl ?_
  refine wp_iload d_Law_law_826 0 rfl ?_
  refine wp_iconst (v := nI 3) d_Law_law_828 (by decide) ?_
  refine wp_iaddN d_Law_law_829 ?_
  refine wp_sild d_Law_law_830 hX hb (by omega) hL ?_
  refine wp_aload_n d_Law_law_831 rfl 1 rfl ?_
  refine wp_callL (k' := (0 + 1)) (n' := (0 + 6)) (r := 0) d_Law_law_832 (link_S (av := [.ref o, .int (xs ((7 * t) + 1)), .int (xs ((7 * t) + 2)), .int (xs ((7 * t) + 3)), .ref out]) (rest := []) d_Law_law_832 cal_Law_read wM_Law_111 rfl) cal_Law_read (l_read ok hV dj1 (xs (7 * t + 1)) (xs (7 * t + 2)) (xs (7 * t + 3))) dj2 (Nat.le_of_ble_eq_true rfl) ⟨Nat.le_trans (Nat.le_of_ble_eq_true rfl) hB.1, Nat.le_trans (Nat.le_of_ble_eq_true rfl) hB.2⟩ (fun hc' v' dj1' dj2' ok' pv => ?_)
  refine wp_istore (lv' := [(5, .int (nI ((stRead s (xs (7 * t + 1)) (xs (7 * t + 2)) (xs (7 * t + 3))).1))), (4, .int (nI (7 * t))), (3, .ref out), (2, .ref om), (1, .ref o), (0, .ref b)]) d_Law_law_835 (by decide) rfl ?_
  refine wp_aload_n d_Law_law_837 rfl 3 rfl ?_
  refine wp_aload_n d_Law_law_838 rfl 5 rfl ?_
  refine wp_iload d_Law_law_839 1 rfl ?_
  refine wp_iconst (v := nI 1) d_Law_law_841 (by decide) ?_
  refine wp_iaddN d_Law_law_842 ?_
  refine wp_sild d_Law_law_843 hX hb (by omega) hL ?_
  refine wp_aload_n d_Law_law_844 rfl 5 rfl ?_
  refine wp_iload d_Law_law_845 1 rfl ?_
  refine wp_iconst (v := nI 2) d_Law_law_847 (by decide) ?_
  refine wp_iaddN d_Law_law_848 ?_
  refine wp_sild d_Law_law_849 hX hb (by omega) hL ?_
  refine wp_aload_n d_Law_law_850 rfl 5 rfl ?_
  refine wp_iload d_Law_law_851 1 rfl ?_
  refine wp_iconst (v := nI 3) d_Law_law_853 (by decide) ?_
  refine wp_iaddN d_Law_law_854 ?_
  refine wp_sild d_Law_law_855 hX hb (by omega) hL ?_
  refine wp_callM (a := (stRead s (xs (7 * t + 1)) (xs (7 * t + 2)) (xs (7 * t + 3)))) (r := 0) d_Law_law_856 (link_V (as := [.int (xs ((7 * t) + 1)), .int (xs ((7 * t) + 2)), .int (xs ((7 * t) + 3))]) (rest := []) (r := (R_Mod, T_Mod, 43)) d_Law_law_856 cal_Mod_read wM_Law_113 rfl (by rw [hor_comm dj2']; exact hor_l hM_o) rfl) cal_Mod_read (c_Mod_read hI rp hV (xs (7 * t + 1)) (xs (7 * t + 2)) (xs (7 * t + 3))) dj2' (Nat.le_of_ble_eq_true rfl) ⟨Nat.le_trans (Nat.le_of_ble_eq_true rfl) hB.1, Nat.le_trans (Nat.le_of_ble_eq_true rfl) hB.2⟩ (fun Fi' M' Ml' rp' f0' dj3 => ?_)
  show WP G m_Law_law B 859 _ (.int (stRead s (xs (7 * t + 1)) (xs (7 * t + 2)) (xs (7 * t + 3))).2.1 :: []) _ _ _
  refine wp_istore (lv' := [(6, .int ((stRead s (xs (7 * t + 1)) (xs (7 * t + 2)) (xs (7 * t + 3))).2.1)), (5, .int (nI ((stRead s (xs (7 * t + 1)) (xs (7 * t + 2)) (xs (7 * t + 3))).1))), (4, .int (nI (7 * t))), (3, .ref out), (2, .ref om), (1, .ref o), (0, .ref b)]) d_Law_law_859 (by decide) rfl ?_
  refine wp_aload_n d_Law_law_861 rfl 4 rfl ?_
  refine wp_callMR (r := 0) d_Law_law_862 (link_V (as := []) (rest := []) (r := (R_Mod, T_Mod, 43)) d_Law_law_862 cal_Mod_thrown wM_Law_74 rfl (by rw [hor_comm dj3]; exact hor_l hM_o) rfl) cal_Mod_thrown c_Mod_thrown dj3 (Nat.le_of_ble_eq_true rfl) ⟨Nat.le_trans (Nat.le_of_ble_eq_true rfl) hB.1, Nat.le_trans (Nat.le_of_ble_eq_true rfl) hB.2⟩ ?_
  refine wp_toI (z := nI (stRead s (xs (7 * t + 1)) (xs (7 * t + 2)) (xs (7 * t + 3))).1) f0' ?_
  refine wp_iload d_Law_law_865 1 rfl ?_
  refine wp_icmp_eq (tgt := 872) d_Law_law_867 (by decide) (fun _ => ?_) (fun c => absurd rfl c)
  refine wp_iload d_Law_law_872 1 rfl ?_
  refine wp_if_neN (tgt := 889) d_Law_law_874 (by decide) (by omega) (fun c874 => ?_) (fun c874 => ?_)
  · refine wp_goto (tgt := 1115) d_Law_law_889 (by decide) ?_
    refine wp_lv [2, 3, 4, 5, 6] rfl ?_
    exact kk _ ⟨(stRead s (xs (7 * t + 1)) (xs (7 * t + 2)) (xs (7 * t + 3))).2.2, hc', v', Fi', M', Ml', rfl, dj1', dj3, ok', rp', iRead hV (by omega) (xs (7 * t + 1)) (xs (7 * t + 2)) (xs (7 * t + 3)), by have := msl_read s (xs (7 * t + 1)) (xs (7 * t + 2)) (xs (7 * t + 3)); omega⟩
  · refine wp_aload_n d_Law_law_877 rfl 3 rfl ?_
    refine wp_iconst (v := nI 0) d_Law_law_878 (by decide) ?_
    have h0 : (stRead s (xs (7 * t + 1)) (xs (7 * t + 2)) (xs (7 * t + 3))).1 = 0 := by omega
    refine wp_lald (t := 1) (N := 1) (f := v') d_Law_law_879 (hor_l (hO_at dj1')) rfl vp_in0 ?_
    refine wp_toL (z := (stRead s (xs (7 * t + 1)) (xs (7 * t + 2)) (xs (7 * t + 3))).2.1.toInt64) (pv h0) ?_
    refine wp_iload d_Law_law_880 0 rfl ?_
    refine wp_i2l d_Law_law_882 rfl ?_
    refine wp_lcmp d_Law_law_883 ?_
    refine wp_if_eqC (tgt := 889) d_Law_law_884 (by decide) (fun _ => ?_) (fun c => absurd rfl c)
    refine wp_goto (tgt := 1115) d_Law_law_889 (by decide) ?_
    refine wp_lv [2, 3, 4, 5, 6] rfl ?_
    exact kk _ ⟨(stRead s (xs (7 * t + 1)) (xs (7 * t + 2)) (xs (7 * t + 3))).2.2, hc', v', Fi', M', Ml', rfl, dj1', dj3, ok', rp', iRead hV (by omega) (xs (7 * t + 1)) (xs (7 * t + 2)) (xs (7 * t + 3)), by have := msl_read s (xs (7 * t + 1)) (xs (7 * t + 2)) (xs (7 * t + 3)); omega⟩
set_option maxRecDepth 20000 in
theorem lc_arrived {G : Gt} {B : Bt} {b L o om out t k n : Nat} {A : Nat → Nat} {xs : Nat → Int32} {h : AHp} (hS : jOK G) (hI : mInj om A) (hX : va_X b L xs (Gs G) (Gs G).heap) (hb : b < (Gs G).heap.size) (hL : L ≤ 3584) (ht : 7 * t + 7 ≤ L) (hB : 12 ≤ Bd B ∧ 220 ≤ Bw B) (hJ : LJ t o om out A h) (kk : ∀ h', LJ (t + 1) o om out A h' → WP G m_Law_law B 1115 [(4, .int (nI (7 * t))), (3, .ref out), (2, .ref om), (1, .ref o), (0, .ref b)] [] h' k n) : WP G m_Law_law B 892 [(4, .int (nI (7 * t))), (3, .ref out), (2, .ref om), (1, .ref o), (0, .ref b)] [] h (k + stepK t) (n + stepN t) := by
  obtain ⟨s, hc, v, Fi, M, Ml, rfl, dj1, dj2, ok, rp, hV, hms⟩ := hJ
  have hm2 := hV.2.1.2.2.2.2.2.2.1
  have hcd := cd_arrived s (xs (7 * t + 1)) (xs (7 * t + 2))
  refine wp_bud (k' := k + (0 + 1)) (n' := n + (0 + 6)) (by unfold stepK; omega) (by unfold stepN; omega) ?_
  refine wp_aload_n d_Law_law_892 rfl 3 rfl ?_
  refine wp_aload_n d_Law_law_893 rfl 4 rfl ?_
  refine wp_iload d_Law_law_894 0 rfl ?_
  refine wp_iconst (v := nI 1) d_Law_law_896 (by decide) ?_
  refine wp_iaddN d_Law_law_897 ?_
  refine wp_sild d_Law_law_898 hX hb (by omega) hL ?_
  refine wp_aload_n d_Law_law_899 rfl 4 rfl ?_
  refine wp_iload d_Law_law_900 0 rfl ?_
  refine wp_iconst (v := nI 2) d_Law_law_902 (by decide) ?_
  refine wp_iaddN d_Law_law_903 ?_
  refine wp_sild d_Law_law_904 hX hb (by omega) hL ?_
  refine wp_aload_n d_Law_law_905 rfl 1 rfl ?_
  refine wp_callL (k' := (0 + 1)) (n' := (0 + 6)) (r := 0) d_Law_law_906 (link_S (av := [.ref o, .int (xs ((7 * t) + 1)), .int (xs ((7 * t) + 2)), .ref out]) (rest := []) d_Law_law_906 cal_Law_arrived wM_Law_114 rfl) cal_Law_arrived (l_arrived ok hV dj1 (xs (7 * t + 1)) (xs (7 * t + 2))) dj2 (Nat.le_of_ble_eq_true rfl) ⟨Nat.le_trans (Nat.le_of_ble_eq_true rfl) hB.1, Nat.le_trans (Nat.le_of_ble_eq_true rfl) hB.2⟩ (fun hc' v' dj1' dj2' ok' pv => ?_)
  refine wp_istore (lv' := [(5, .int (nI ((stArrived s (xs (7 * t + 1)) (xs (7 * t + 2))).1))), (4, .int (nI (7 * t))), (3, .ref out), (2, .ref om), (1, .ref o), (0, .ref b)]) d_Law_law_909 (by decide) rfl ?_
  refine wp_aload_n d_Law_law_911 rfl 3 rfl ?_
  refine wp_aload_n d_Law_law_912 rfl 5 rfl ?_
  refine wp_iload d_Law_law_913 1 rfl ?_
  refine wp_iconst (v := nI 1) d_Law_law_915 (by decide) ?_
  refine wp_iaddN d_Law_law_916 ?_
  refine wp_sild d_Law_law_917 hX hb (by omega) hL ?_
  refine wp_aload_n d_Law_law_918 rfl 5 rfl ?_
  refine wp_iload d_Law_law_919 1 rfl ?_
  refine wp_iconst (v := nI 2) d_Law_law_921 (by decide) ?_
  refine wp_iaddN d_Law_law_922 ?_
  refine wp_sild d_Law_law_923 hX hb (by omega) hL ?_
  refine wp_callM (a := (stArrived s (xs (7 * t + 1)) (xs (7 * t + 2)))) (r := 0) d_Law_law_924 (link_V (as := [.int (xs ((7 * t) + 1)), .int (xs ((7 * t) + 2))]) (rest := []) (r := (R_Mod, T_Mod, 43)) d_Law_law_924 cal_Mod_arrived wM_Law_116 rfl (by rw [hor_comm dj2']; exact hor_l hM_o) rfl) cal_Mod_arrived (c_Mod_arrived hI rp hV (xs (7 * t + 1)) (xs (7 * t + 2))) dj2' (Nat.le_of_ble_eq_true rfl) ⟨Nat.le_trans (Nat.le_of_ble_eq_true rfl) hB.1, Nat.le_trans (Nat.le_of_ble_eq_true rfl) hB.2⟩ (fun Fi' M' Ml' rp' f0' dj3 => ?_)
  show WP G m_Law_law B 927 _ (.int (stArrived s (xs (7 * t + 1)) (xs (7 * t + 2))).2.1 :: []) _ _ _
  refine wp_istore (lv' := [(6, .int ((stArrived s (xs (7 * t + 1)) (xs (7 * t + 2))).2.1)), (5, .int (nI ((stArrived s (xs (7 * t + 1)) (xs (7 * t + 2))).1))), (4, .int (nI (7 * t))), (3, .ref out), (2, .ref om), (1, .ref o), (0, .ref b)]) d_Law_law_927 (by decide) rfl ?_
  refine wp_aload_n d_Law_law_929 rfl 4 rfl ?_
  refine wp_callMR (r := 0) d_Law_law_930 (link_V (as := []) (rest := []) (r := (R_Mod, T_Mod, 43)) d_Law_law_930 cal_Mod_thrown wM_Law_74 rfl (by rw [hor_comm dj3]; exact hor_l hM_o) rfl) cal_Mod_thrown c_Mod_thrown dj3 (Nat.le_of_ble_eq_true rfl) ⟨Nat.le_trans (Nat.le_of_ble_eq_true rfl) hB.1, Nat.le_trans (Nat.le_of_ble_eq_true rfl) hB.2⟩ ?_
  refine wp_toI (z := nI (stArrived s (xs (7 * t + 1)) (xs (7 * t + 2))).1) f0' ?_
  refine wp_iload d_Law_law_933 1 rfl ?_
  refine wp_icmp_eq (tgt := 940) d_Law_law_935 (by decide) (fun _ => ?_) (fun c => absurd rfl c)
  refine wp_iload d_Law_law_940 1 rfl ?_
  refine wp_if_neN (tgt := 964) d_Law_law_942 (by decide) (by omega) (fun c942 => ?_) (fun c942 => ?_)
  · refine wp_goto (tgt := 1115) d_Law_law_964 (by decide) ?_
    refine wp_lv [2, 3, 4, 5, 6] rfl ?_
    exact kk _ ⟨(stArrived s (xs (7 * t + 1)) (xs (7 * t + 2))).2.2, hc', v', Fi', M', Ml', rfl, dj1', dj3, ok', rp', iArrived hV (by omega) (xs (7 * t + 1)) (xs (7 * t + 2)), by have := msl_arrived s (xs (7 * t + 1)) (xs (7 * t + 2)); omega⟩
  · refine wp_aload_n d_Law_law_945 rfl 3 rfl ?_
    refine wp_iconst (v := nI 0) d_Law_law_946 (by decide) ?_
    have h0 : (stArrived s (xs (7 * t + 1)) (xs (7 * t + 2))).1 = 0 := by omega
    refine wp_lald (t := 1) (N := 1) (f := v') d_Law_law_947 (hor_l (hO_at dj1')) rfl vp_in0 ?_
    refine wp_toL (z := (if (stArrived s (xs (7 * t + 1)) (xs (7 * t + 2))).2.1 = 0 then 0 else 1)) (pv h0) ?_
    refine wp_iload d_Law_law_948 0 rfl ?_
    refine wp_if_eq (tgt := 957) d_Law_law_950 (by decide) (fun c950 => ?_) (fun c950 => ?_)
    · refine wp_lconst (v := lN 0) d_Law_law_957 (by decide) ?_
      refine wp_lcmp d_Law_law_958 ?_
      refine wp_if_eqC (tgt := 964) d_Law_law_959 (by decide) (fun _ => ?_) (fun c => absurd (by first | (rw [if_pos c950]; rfl) | (rw [if_neg c950]; rfl)) c)
      refine wp_goto (tgt := 1115) d_Law_law_964 (by decide) ?_
      refine wp_lv [2, 3, 4, 5, 6] rfl ?_
      exact kk _ ⟨(stArrived s (xs (7 * t + 1)) (xs (7 * t + 2))).2.2, hc', v', Fi', M', Ml', rfl, dj1', dj3, ok', rp', iArrived hV (by omega) (xs (7 * t + 1)) (xs (7 * t + 2)), by have := msl_arrived s (xs (7 * t + 1)) (xs (7 * t + 2)); omega⟩
    · refine wp_lconst (v := lN 1) d_Law_law_953 (by decide) ?_
      refine wp_goto (tgt := 958) d_Law_law_954 (by decide) ?_
      refine wp_lcmp d_Law_law_958 ?_
      refine wp_if_eqC (tgt := 964) d_Law_law_959 (by decide) (fun _ => ?_) (fun c => absurd (by first | (rw [if_pos c950]; rfl) | (rw [if_neg c950]; rfl)) c)
      refine wp_goto (tgt := 1115) d_Law_law_964 (by decide) ?_
      refine wp_lv [2, 3, 4, 5, 6] rfl ?_
      exact kk _ ⟨(stArrived s (xs (7 * t + 1)) (xs (7 * t + 2))).2.2, hc', v', Fi', M', Ml', rfl, dj1', dj3, ok', rp', iArrived hV (by omega) (xs (7 * t + 1)) (xs (7 * t + 2)), by have := msl_arrived s (xs (7 * t + 1)) (xs (7 * t + 2)); omega⟩
set_option maxRecDepth 20000 in
theorem lc_channel {G : Gt} {B : Bt} {b L o om out t k n : Nat} {A : Nat → Nat} {xs : Nat → Int32} {h : AHp} (hS : jOK G) (hI : mInj om A) (hX : va_X b L xs (Gs G) (Gs G).heap) (hb : b < (Gs G).heap.size) (hL : L ≤ 3584) (ht : 7 * t + 7 ≤ L) (hB : 12 ≤ Bd B ∧ 220 ≤ Bw B) (hJ : LJ t o om out A h) (kk : ∀ h', LJ (t + 1) o om out A h' → WP G m_Law_law B 1115 [(4, .int (nI (7 * t))), (3, .ref out), (2, .ref om), (1, .ref o), (0, .ref b)] [] h' k n) : WP G m_Law_law B 967 [(4, .int (nI (7 * t))), (3, .ref out), (2, .ref om), (1, .ref o), (0, .ref b)] [] h (k + stepK t) (n + stepN t) := by
  obtain ⟨s, hc, v, Fi, M, Ml, rfl, dj1, dj2, ok, rp, hV, hms⟩ := hJ
  have hm2 := hV.2.1.2.2.2.2.2.2.1
  have hcd := cd_channel s (xs (7 * t + 1)) (xs (7 * t + 2)) (xs (7 * t + 3))
  refine wp_bud (k' := k + (0 + 1)) (n' := n + (0 + 6)) (by unfold stepK; omega) (by unfold stepN; omega) ?_
  refine wp_aload_n d_Law_law_967 rfl 3 rfl ?_
  refine wp_aload_n d_Law_law_968 rfl 4 rfl ?_
  refine wp_iload d_Law_law_969 0 rfl ?_
  refine wp_iconst (v := nI 1) d_Law_law_971 (by decide) ?_
  refine wp_iaddN d_Law_law_972 ?_
  refine wp_sild d_Law_law_973 hX hb (by omega) hL ?_
  refine wp_aload_n d_Law_law_974 rfl 4 rfl ?_
  refine wp_iload d_Law_law_975 0 rfl ?_
  refine wp_iconst (v := nI 2) d_Law_law_977 (by decide) ?_
  refine wp_iaddN d_Law_law_978 ?_
  refine wp_sild d_Law_law_979 hX hb (by omega) hL ?_
  refine wp_aload_n d_Law_law_980 rfl 4 rfl ?_
  refine wp_iload d_Law_law_981 0 rfl ?_
  refine wp_iconst (v := nI 3) d_Law_law_983 (by decide) ?_
  refine wp_iaddN d_Law_law_984 ?_
  refine wp_sild d_Law_law_985 hX hb (by omega) hL ?_
  refine wp_aload_n d_Law_law_986 rfl 1 rfl ?_
  refine wp_callL (k' := (0 + 1)) (n' := (0 + 6)) (r := 0) d_Law_law_987 (link_S (av := [.ref o, .int (xs ((7 * t) + 1)), .int (xs ((7 * t) + 2)), .int (xs ((7 * t) + 3)), .ref out]) (rest := []) d_Law_law_987 cal_Law_channel wM_Law_117 rfl) cal_Law_channel (l_channel ok hV dj1 (xs (7 * t + 1)) (xs (7 * t + 2)) (xs (7 * t + 3))) dj2 (Nat.le_of_ble_eq_true rfl) ⟨Nat.le_trans (Nat.le_of_ble_eq_true rfl) hB.1, Nat.le_trans (Nat.le_of_ble_eq_true rfl) hB.2⟩ (fun hc' v' dj1' dj2' ok' pv => ?_)
  refine wp_istore (lv' := [(5, .int (nI ((stChannel s (xs (7 * t + 1)) (xs (7 * t + 2)) (xs (7 * t + 3))).1))), (4, .int (nI (7 * t))), (3, .ref out), (2, .ref om), (1, .ref o), (0, .ref b)]) d_Law_law_990 (by decide) rfl ?_
  refine wp_aload_n d_Law_law_992 rfl 3 rfl ?_
  refine wp_aload_n d_Law_law_993 rfl 5 rfl ?_
  refine wp_iload d_Law_law_994 1 rfl ?_
  refine wp_iconst (v := nI 1) d_Law_law_996 (by decide) ?_
  refine wp_iaddN d_Law_law_997 ?_
  refine wp_sild d_Law_law_998 hX hb (by omega) hL ?_
  refine wp_aload_n d_Law_law_999 rfl 5 rfl ?_
  refine wp_iload d_Law_law_1000 1 rfl ?_
  refine wp_iconst (v := nI 2) d_Law_law_1002 (by decide) ?_
  refine wp_iaddN d_Law_law_1003 ?_
  refine wp_sild d_Law_law_1004 hX hb (by omega) hL ?_
  refine wp_aload_n d_Law_law_1005 rfl 5 rfl ?_
  refine wp_iload d_Law_law_1006 1 rfl ?_
  refine wp_iconst (v := nI 3) d_Law_law_1008 (by decide) ?_
  refine wp_iaddN d_Law_law_1009 ?_
  refine wp_sild d_Law_law_1010 hX hb (by omega) hL ?_
  refine wp_callM (a := (stChannel s (xs (7 * t + 1)) (xs (7 * t + 2)) (xs (7 * t + 3)))) (r := 0) d_Law_law_1011 (link_V (as := [.int (xs ((7 * t) + 1)), .int (xs ((7 * t) + 2)), .int (xs ((7 * t) + 3))]) (rest := []) (r := (R_Mod, T_Mod, 43)) d_Law_law_1011 cal_Mod_channel wM_Law_119 rfl (by rw [hor_comm dj2']; exact hor_l hM_o) rfl) cal_Mod_channel (c_Mod_channel hI rp hV (xs (7 * t + 1)) (xs (7 * t + 2)) (xs (7 * t + 3))) dj2' (Nat.le_of_ble_eq_true rfl) ⟨Nat.le_trans (Nat.le_of_ble_eq_true rfl) hB.1, Nat.le_trans (Nat.le_of_ble_eq_true rfl) hB.2⟩ (fun Fi' M' Ml' rp' f0' dj3 => ?_)
  show WP G m_Law_law B 1014 _ (.int (stChannel s (xs (7 * t + 1)) (xs (7 * t + 2)) (xs (7 * t + 3))).2.1 :: []) _ _ _
  refine wp_istore (lv' := [(6, .int ((stChannel s (xs (7 * t + 1)) (xs (7 * t + 2)) (xs (7 * t + 3))).2.1)), (5, .int (nI ((stChannel s (xs (7 * t + 1)) (xs (7 * t + 2)) (xs (7 * t + 3))).1))), (4, .int (nI (7 * t))), (3, .ref out), (2, .ref om), (1, .ref o), (0, .ref b)]) d_Law_law_1014 (by decide) rfl ?_
  refine wp_aload_n d_Law_law_1016 rfl 4 rfl ?_
  refine wp_callMR (r := 0) d_Law_law_1017 (link_V (as := []) (rest := []) (r := (R_Mod, T_Mod, 43)) d_Law_law_1017 cal_Mod_thrown wM_Law_74 rfl (by rw [hor_comm dj3]; exact hor_l hM_o) rfl) cal_Mod_thrown c_Mod_thrown dj3 (Nat.le_of_ble_eq_true rfl) ⟨Nat.le_trans (Nat.le_of_ble_eq_true rfl) hB.1, Nat.le_trans (Nat.le_of_ble_eq_true rfl) hB.2⟩ ?_
  refine wp_toI (z := nI (stChannel s (xs (7 * t + 1)) (xs (7 * t + 2)) (xs (7 * t + 3))).1) f0' ?_
  refine wp_iload d_Law_law_1020 1 rfl ?_
  refine wp_icmp_eq (tgt := 1027) d_Law_law_1022 (by decide) (fun _ => ?_) (fun c => absurd rfl c)
  refine wp_iload d_Law_law_1027 1 rfl ?_
  refine wp_if_neN (tgt := 1044) d_Law_law_1029 (by decide) (by omega) (fun c1029 => ?_) (fun c1029 => ?_)
  · refine wp_goto (tgt := 1115) d_Law_law_1044 (by decide) ?_
    refine wp_lv [2, 3, 4, 5, 6] rfl ?_
    exact kk _ ⟨(stChannel s (xs (7 * t + 1)) (xs (7 * t + 2)) (xs (7 * t + 3))).2.2, hc', v', Fi', M', Ml', rfl, dj1', dj3, ok', rp', iChannel hV (by omega) (xs (7 * t + 1)) (xs (7 * t + 2)) (xs (7 * t + 3)), by have := msl_channel s (xs (7 * t + 1)) (xs (7 * t + 2)) (xs (7 * t + 3)); omega⟩
  · refine wp_aload_n d_Law_law_1032 rfl 3 rfl ?_
    refine wp_iconst (v := nI 0) d_Law_law_1033 (by decide) ?_
    have h0 : (stChannel s (xs (7 * t + 1)) (xs (7 * t + 2)) (xs (7 * t + 3))).1 = 0 := by omega
    refine wp_lald (t := 1) (N := 1) (f := v') d_Law_law_1034 (hor_l (hO_at dj1')) rfl vp_in0 ?_
    refine wp_toL (z := (stChannel s (xs (7 * t + 1)) (xs (7 * t + 2)) (xs (7 * t + 3))).2.1.toInt64) (pv h0) ?_
    refine wp_iload d_Law_law_1035 0 rfl ?_
    refine wp_i2l d_Law_law_1037 rfl ?_
    refine wp_lcmp d_Law_law_1038 ?_
    refine wp_if_eqC (tgt := 1044) d_Law_law_1039 (by decide) (fun _ => ?_) (fun c => absurd rfl c)
    refine wp_goto (tgt := 1115) d_Law_law_1044 (by decide) ?_
    refine wp_lv [2, 3, 4, 5, 6] rfl ?_
    exact kk _ ⟨(stChannel s (xs (7 * t + 1)) (xs (7 * t + 2)) (xs (7 * t + 3))).2.2, hc', v', Fi', M', Ml', rfl, dj1', dj3, ok', rp', iChannel hV (by omega) (xs (7 * t + 1)) (xs (7 * t + 2)) (xs (7 * t + 3)), by have := msl_channel s (xs (7 * t + 1)) (xs (7 * t + 2)) (xs (7 * t + 3)); omega⟩
set_option maxRecDepth 20000 in
theorem lc_count {G : Gt} {B : Bt} {b L o om out t k n : Nat} {A : Nat → Nat} {xs : Nat → Int32} {h : AHp} (hS : jOK G) (hI : mInj om A) (hX : va_X b L xs (Gs G) (Gs G).heap) (hb : b < (Gs G).heap.size) (hL : L ≤ 3584) (ht : 7 * t + 7 ≤ L) (hB : 12 ≤ Bd B ∧ 220 ≤ Bw B) (hJ : LJ t o om out A h) (kk : ∀ h', LJ (t + 1) o om out A h' → WP G m_Law_law B 1115 [(4, .int (nI (7 * t))), (3, .ref out), (2, .ref om), (1, .ref o), (0, .ref b)] [] h' k n) : WP G m_Law_law B 1047 [(4, .int (nI (7 * t))), (3, .ref out), (2, .ref om), (1, .ref o), (0, .ref b)] [] h (k + stepK t) (n + stepN t) := by
  obtain ⟨s, hc, v, Fi, M, Ml, rfl, dj1, dj2, ok, rp, hV, hms⟩ := hJ
  have hm2 := hV.2.1.2.2.2.2.2.2.1
  have hcd := cd_count s (xs (7 * t + 1)) (xs (7 * t + 2))
  refine wp_bud (k' := k + (0 + 1)) (n' := n + (0 + 6)) (by unfold stepK; omega) (by unfold stepN; omega) ?_
  refine wp_aload_n d_Law_law_1047 rfl 3 rfl ?_
  refine wp_aload_n d_Law_law_1048 rfl 4 rfl ?_
  refine wp_iload d_Law_law_1049 0 rfl ?_
  refine wp_iconst (v := nI 1) d_Law_law_1051 (by decide) ?_
  refine wp_iaddN d_Law_law_1052 ?_
  refine wp_sild d_Law_law_1053 hX hb (by omega) hL ?_
  refine wp_aload_n d_Law_law_1054 rfl 4 rfl ?_
  refine wp_iload d_Law_law_1055 0 rfl ?_
  refine wp_iconst (v := nI 2) d_Law_law_1057 (by decide) ?_
  refine wp_iaddN d_Law_law_1058 ?_
  refine wp_sild d_Law_law_1059 hX hb (by omega) hL ?_
  refine wp_aload_n d_Law_law_1060 rfl 1 rfl ?_
  refine wp_callL (k' := (0 + 1)) (n' := (0 + 6)) (r := 0) d_Law_law_1061 (link_S (av := [.ref o, .int (xs ((7 * t) + 1)), .int (xs ((7 * t) + 2)), .ref out]) (rest := []) d_Law_law_1061 cal_Law_count wM_Law_120 rfl) cal_Law_count (l_count ok hV dj1 (xs (7 * t + 1)) (xs (7 * t + 2))) dj2 (Nat.le_of_ble_eq_true rfl) ⟨Nat.le_trans (Nat.le_of_ble_eq_true rfl) hB.1, Nat.le_trans (Nat.le_of_ble_eq_true rfl) hB.2⟩ (fun hc' v' dj1' dj2' ok' pv => ?_)
  refine wp_istore (lv' := [(5, .int (nI ((stCount s (xs (7 * t + 1)) (xs (7 * t + 2))).1))), (4, .int (nI (7 * t))), (3, .ref out), (2, .ref om), (1, .ref o), (0, .ref b)]) d_Law_law_1064 (by decide) rfl ?_
  refine wp_aload_n d_Law_law_1066 rfl 3 rfl ?_
  refine wp_aload_n d_Law_law_1067 rfl 5 rfl ?_
  refine wp_iload d_Law_law_1068 1 rfl ?_
  refine wp_iconst (v := nI 1) d_Law_law_1070 (by decide) ?_
  refine wp_iaddN d_Law_law_1071 ?_
  refine wp_sild d_Law_law_1072 hX hb (by omega) hL ?_
  refine wp_aload_n d_Law_law_1073 rfl 5 rfl ?_
  refine wp_iload d_Law_law_1074 1 rfl ?_
  refine wp_iconst (v := nI 2) d_Law_law_1076 (by decide) ?_
  refine wp_iaddN d_Law_law_1077 ?_
  refine wp_sild d_Law_law_1078 hX hb (by omega) hL ?_
  refine wp_callM (a := (stCount s (xs (7 * t + 1)) (xs (7 * t + 2)))) (r := 0) d_Law_law_1079 (link_V (as := [.int (xs ((7 * t) + 1)), .int (xs ((7 * t) + 2))]) (rest := []) (r := (R_Mod, T_Mod, 43)) d_Law_law_1079 cal_Mod_count wM_Law_122 rfl (by rw [hor_comm dj2']; exact hor_l hM_o) rfl) cal_Mod_count (c_Mod_count hI rp hV (xs (7 * t + 1)) (xs (7 * t + 2))) dj2' (Nat.le_of_ble_eq_true rfl) ⟨Nat.le_trans (Nat.le_of_ble_eq_true rfl) hB.1, Nat.le_trans (Nat.le_of_ble_eq_true rfl) hB.2⟩ (fun Fi' M' Ml' rp' f0' dj3 => ?_)
  show WP G m_Law_law B 1082 _ (.int (stCount s (xs (7 * t + 1)) (xs (7 * t + 2))).2.1 :: []) _ _ _
  refine wp_istore (lv' := [(6, .int ((stCount s (xs (7 * t + 1)) (xs (7 * t + 2))).2.1)), (5, .int (nI ((stCount s (xs (7 * t + 1)) (xs (7 * t + 2))).1))), (4, .int (nI (7 * t))), (3, .ref out), (2, .ref om), (1, .ref o), (0, .ref b)]) d_Law_law_1082 (by decide) rfl ?_
  refine wp_aload_n d_Law_law_1084 rfl 4 rfl ?_
  refine wp_callMR (r := 0) d_Law_law_1085 (link_V (as := []) (rest := []) (r := (R_Mod, T_Mod, 43)) d_Law_law_1085 cal_Mod_thrown wM_Law_74 rfl (by rw [hor_comm dj3]; exact hor_l hM_o) rfl) cal_Mod_thrown c_Mod_thrown dj3 (Nat.le_of_ble_eq_true rfl) ⟨Nat.le_trans (Nat.le_of_ble_eq_true rfl) hB.1, Nat.le_trans (Nat.le_of_ble_eq_true rfl) hB.2⟩ ?_
  refine wp_toI (z := nI (stCount s (xs (7 * t + 1)) (xs (7 * t + 2))).1) f0' ?_
  refine wp_iload d_Law_law_1088 1 rfl ?_
  refine wp_icmp_eq (tgt := 1095) d_Law_law_1090 (by decide) (fun _ => ?_) (fun c => absurd rfl c)
  refine wp_iload d_Law_law_1095 1 rfl ?_
  refine wp_if_neN (tgt := 1112) d_Law_law_1097 (by decide) (by omega) (fun c1097 => ?_) (fun c1097 => ?_)
  · refine wp_goto (tgt := 1115) d_Law_law_1112 (by decide) ?_
    refine wp_lv [2, 3, 4, 5, 6] rfl ?_
    exact kk _ ⟨(stCount s (xs (7 * t + 1)) (xs (7 * t + 2))).2.2, hc', v', Fi', M', Ml', rfl, dj1', dj3, ok', rp', iCount hV (by omega) (xs (7 * t + 1)) (xs (7 * t + 2)), by have := msl_count s (xs (7 * t + 1)) (xs (7 * t + 2)); omega⟩
  · refine wp_aload_n d_Law_law_1100 rfl 3 rfl ?_
    refine wp_iconst (v := nI 0) d_Law_law_1101 (by decide) ?_
    have h0 : (stCount s (xs (7 * t + 1)) (xs (7 * t + 2))).1 = 0 := by omega
    refine wp_lald (t := 1) (N := 1) (f := v') d_Law_law_1102 (hor_l (hO_at dj1')) rfl vp_in0 ?_
    refine wp_toL (z := (stCount s (xs (7 * t + 1)) (xs (7 * t + 2))).2.1.toInt64) (pv h0) ?_
    refine wp_iload d_Law_law_1103 0 rfl ?_
    refine wp_i2l d_Law_law_1105 rfl ?_
    refine wp_lcmp d_Law_law_1106 ?_
    refine wp_if_eqC (tgt := 1112) d_Law_law_1107 (by decide) (fun _ => ?_) (fun c => absurd rfl c)
    refine wp_goto (tgt := 1115) d_Law_law_1112 (by decide) ?_
    refine wp_lv [2, 3, 4, 5, 6] rfl ?_
    exact kk _ ⟨(stCount s (xs (7 * t + 1)) (xs (7 * t + 2))).2.2, hc', v', Fi', M', Ml', rfl, dj1', dj3, ok', rp', iCount hV (by omega) (xs (7 * t + 1)) (xs (7 * t + 2)), by have := msl_count s (xs (7 * t + 1)) (xs (7 * t + 2)); omega⟩
end Cls39
