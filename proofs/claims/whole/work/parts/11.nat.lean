section NatRules
theorem sh_l : ∀ c, c < 32 → ((nI c &&& 31).toBitVec.smod 32).toNat = c := by decide +kernel
theorem nI_or (a b : Nat) : nI a ||| nI b = nI (a ||| b) := by
  apply Int32.toBitVec_inj.1
  show BitVec.ofNat 32 a ||| BitVec.ofNat 32 b = BitVec.ofNat 32 (a ||| b)
  apply BitVec.eq_of_getLsbD_eq
  intro i hi
  simp [hi]
theorem nI_and (a b : Nat) : nI a &&& nI b = nI (a &&& b) := by
  apply Int32.toBitVec_inj.1
  show BitVec.ofNat 32 a &&& BitVec.ofNat 32 b = BitVec.ofNat 32 (a &&& b)
  apply BitVec.eq_of_getLsbD_eq
  intro i hi
  simp [hi]
theorem or_add {a b k : Nat} (hb : b < 2 ^ k) : a * 2 ^ k ||| b = a * 2 ^ k + b := by
  rw [← Nat.shiftLeft_eq, Nat.shiftLeft_add_eq_or_of_lt hb]
variable {G : Gt} {y : Mi} {B : Bt} {pc : Nat} {lv : List (Nat × Value)} {st : List Value} {h : AHp} {k n : Nat}
theorem wp_top {x : Int32} (kk : ∀ z : Int32, z = x → WP G y B pc lv (.int z :: st) h k n) : WP G y B pc lv (.int x :: st) h k n := kk x rfl
theorem wp_toN {x : Int32} {a : Nat} (hx : x = nI a) (kk : WP G y B pc lv (.int (nI a) :: st) h k n) : WP G y B pc lv (.int x :: st) h k n := by rw [hx]; exact kk
theorem wp_iaddN {a b : Nat} (hd : decode (mB y) pc = .ok (.iadd, 1)) (kk : WP G y B (pc + 1) lv (.int (nI (a + b)) :: st) h k n) : WP G y B pc lv (.int (nI b) :: .int (nI a) :: st) h k n := wp_iadd hd (by rw [nI_add]; exact kk)
theorem wp_isubN {a b : Nat} (hd : decode (mB y) pc = .ok (.isub, 1)) (hle : b ≤ a) (kk : WP G y B (pc + 1) lv (.int (nI (a - b)) :: st) h k n) : WP G y B pc lv (.int (nI b) :: .int (nI a) :: st) h k n := wp_isub hd (by rw [pk_sub hle]; exact kk)
theorem wp_imulN {a b : Nat} (hd : decode (mB y) pc = .ok (.imul, 1)) (kk : WP G y B (pc + 1) lv (.int (nI (a * b)) :: st) h k n) : WP G y B pc lv (.int (nI b) :: .int (nI a) :: st) h k n := wp_imul hd (by rw [pk_mul]; exact kk)
theorem wp_idivN {a b : Nat} (hd : decode (mB y) pc = .ok (.idiv, 1)) (ha : a < 2 ^ 31) (h0 : 0 < b) (hb : b < 2 ^ 31) (kk : WP G y B (pc + 1) lv (.int (nI (a / b)) :: st) h k n) : WP G y B pc lv (.int (nI b) :: .int (nI a) :: st) h k n := wp_idiv hd (nI_ne0 h0 hb) (by rw [pk_div ha h0 hb]; exact kk)
theorem wp_iremN {a b : Nat} (hd : decode (mB y) pc = .ok (.irem, 1)) (ha : a < 2 ^ 31) (h0 : 0 < b) (hb : b < 2 ^ 31) (kk : WP G y B (pc + 1) lv (.int (nI (a % b)) :: st) h k n) : WP G y B pc lv (.int (nI b) :: .int (nI a) :: st) h k n := wp_irem hd (nI_ne0 h0 hb) (by rw [pk_rem ha h0 hb]; exact kk)
theorem wp_ishlN {a c : Nat} (hd : decode (mB y) pc = .ok (.ishl, 1)) (hc : c < 32) (ha : a * 2 ^ c < 2 ^ 32) (kk : WP G y B (pc + 1) lv (.int (nI (a * 2 ^ c)) :: st) h k n) : WP G y B pc lv (.int (nI c) :: .int (nI a) :: st) h k n := wp_ishl hd (by rw [pk_shlN _ c (sh_l c hc) ha]; exact kk)
theorem wp_ishrN {a c : Nat} (hd : decode (mB y) pc = .ok (.ishr, 1)) (hc : c < 32) (ha : a < 2 ^ 31) (kk : WP G y B (pc + 1) lv (.int (nI (a / 2 ^ c)) :: st) h k n) : WP G y B pc lv (.int (nI c) :: .int (nI a) :: st) h k n := wp_ishr hd (by rw [pk_shrN ha _ c (sh_l c hc)]; exact kk)
theorem wp_iandM {a m c : Nat} (hd : decode (mB y) pc = .ok (.iand, 1)) (ha : a < 2 ^ 32) (hm : (nI m).toBitVec.toNat = 2 ^ c - 1) (kk : WP G y B (pc + 1) lv (.int (nI (a % 2 ^ c)) :: st) h k n) : WP G y B pc lv (.int (nI m) :: .int (nI a) :: st) h k n := wp_iand hd (by rw [pk_andN ha c hm]; exact kk)
theorem wp_iandN {a b : Nat} (hd : decode (mB y) pc = .ok (.iand, 1)) (kk : WP G y B (pc + 1) lv (.int (nI (a &&& b)) :: st) h k n) : WP G y B pc lv (.int (nI b) :: .int (nI a) :: st) h k n := wp_iand hd (by rw [nI_and]; exact kk)
theorem wp_iorN {a b : Nat} (hd : decode (mB y) pc = .ok (.ior, 1)) (kk : WP G y B (pc + 1) lv (.int (nI (a ||| b)) :: st) h k n) : WP G y B pc lv (.int (nI b) :: .int (nI a) :: st) h k n := wp_ior hd (by rw [nI_or]; exact kk)
theorem wp_ltN {a b tgt : Nat} {off : Int} (hd : decode (mB y) pc = .ok (.if_icmp .lt off, 3)) (ht : (pc : Int) + off = (tgt : Int)) (ha : a < 2 ^ 31) (hb : b < 2 ^ 31) (kt : a < b → WP G y B tgt lv st h k n) (kf : b ≤ a → WP G y B (pc + 3) lv st h k n) : WP G y B pc lv (.int (nI b) :: .int (nI a) :: st) h k n :=
  wp_icmp_lt hd ht (fun q => kt ((nI_ltI ha hb).mp q)) (fun q => kf (Nat.not_lt.mp fun q2 => q ((nI_ltI ha hb).mpr q2)))
theorem wp_geN {a b tgt : Nat} {off : Int} (hd : decode (mB y) pc = .ok (.if_icmp .ge off, 3)) (ht : (pc : Int) + off = (tgt : Int)) (ha : a < 2 ^ 31) (hb : b < 2 ^ 31) (kt : b ≤ a → WP G y B tgt lv st h k n) (kf : a < b → WP G y B (pc + 3) lv st h k n) : WP G y B pc lv (.int (nI b) :: .int (nI a) :: st) h k n :=
  wp_icmp_ge hd ht (fun q => kt ((nI_leI hb ha).mp q)) (fun q => kf (Nat.not_le.mp fun q2 => q ((nI_leI hb ha).mpr q2)))
theorem wp_gtN {a b tgt : Nat} {off : Int} (hd : decode (mB y) pc = .ok (.if_icmp .gt off, 3)) (ht : (pc : Int) + off = (tgt : Int)) (ha : a < 2 ^ 31) (hb : b < 2 ^ 31) (kt : b < a → WP G y B tgt lv st h k n) (kf : a ≤ b → WP G y B (pc + 3) lv st h k n) : WP G y B pc lv (.int (nI b) :: .int (nI a) :: st) h k n :=
  wp_icmp_gt hd ht (fun q => kt ((nI_ltI hb ha).mp q)) (fun q => kf (Nat.not_lt.mp fun q2 => q ((nI_ltI hb ha).mpr q2)))
theorem wp_leN {a b tgt : Nat} {off : Int} (hd : decode (mB y) pc = .ok (.if_icmp .le off, 3)) (ht : (pc : Int) + off = (tgt : Int)) (ha : a < 2 ^ 31) (hb : b < 2 ^ 31) (kt : a ≤ b → WP G y B tgt lv st h k n) (kf : b < a → WP G y B (pc + 3) lv st h k n) : WP G y B pc lv (.int (nI b) :: .int (nI a) :: st) h k n :=
  wp_icmp_le hd ht (fun q => kt ((nI_leI ha hb).mp q)) (fun q => kf (Nat.not_le.mp fun q2 => q ((nI_leI ha hb).mpr q2)))
theorem wp_eqN {a b tgt : Nat} {off : Int} (hd : decode (mB y) pc = .ok (.if_icmp .eq off, 3)) (ht : (pc : Int) + off = (tgt : Int)) (ha : a < 2 ^ 31) (hb : b < 2 ^ 31) (kt : a = b → WP G y B tgt lv st h k n) (kf : a ≠ b → WP G y B (pc + 3) lv st h k n) : WP G y B pc lv (.int (nI b) :: .int (nI a) :: st) h k n :=
  wp_icmp_eq hd ht (fun q => kt ((nI_eq ha hb).mp q)) (fun q => kf fun q2 => q ((nI_eq ha hb).mpr q2))
theorem wp_neN {a b tgt : Nat} {off : Int} (hd : decode (mB y) pc = .ok (.if_icmp .ne off, 3)) (ht : (pc : Int) + off = (tgt : Int)) (ha : a < 2 ^ 31) (hb : b < 2 ^ 31) (kt : a ≠ b → WP G y B tgt lv st h k n) (kf : a = b → WP G y B (pc + 3) lv st h k n) : WP G y B pc lv (.int (nI b) :: .int (nI a) :: st) h k n :=
  wp_icmp_ne hd ht (fun q => kt fun q2 => q ((nI_eq ha hb).mpr q2)) (fun q => kf ((nI_eq ha hb).mp q))
theorem nI_z {a : Nat} (ha : a < 2 ^ 31) : nI a = 0 ↔ a = 0 := by
  rw [← nI_0]
  exact nI_eq ha (by decide)
theorem wp_if_eqN {a tgt : Nat} {off : Int} (hd : decode (mB y) pc = .ok (.ifCond .eq off, 3)) (ht : (pc : Int) + off = (tgt : Int)) (ha : a < 2 ^ 31) (kt : a = 0 → WP G y B tgt lv st h k n) (kf : 0 < a → WP G y B (pc + 3) lv st h k n) : WP G y B pc lv (.int (nI a) :: st) h k n :=
  wp_if_eq hd ht (fun q => kt ((nI_z ha).mp q)) (fun q => kf (Nat.pos_of_ne_zero fun q2 => q ((nI_z ha).mpr q2)))
theorem wp_if_neN {a tgt : Nat} {off : Int} (hd : decode (mB y) pc = .ok (.ifCond .ne off, 3)) (ht : (pc : Int) + off = (tgt : Int)) (ha : a < 2 ^ 31) (kt : 0 < a → WP G y B tgt lv st h k n) (kf : a = 0 → WP G y B (pc + 3) lv st h k n) : WP G y B pc lv (.int (nI a) :: st) h k n :=
  wp_if_ne hd ht (fun q => kt (Nat.pos_of_ne_zero fun q2 => q ((nI_z ha).mpr q2))) (fun q => kf ((nI_z ha).mp q))
theorem wp_if_leN {a tgt : Nat} {off : Int} (hd : decode (mB y) pc = .ok (.ifCond .le off, 3)) (ht : (pc : Int) + off = (tgt : Int)) (ha : a < 2 ^ 31) (kt : a = 0 → WP G y B tgt lv st h k n) (kf : 0 < a → WP G y B (pc + 3) lv st h k n) : WP G y B pc lv (.int (nI a) :: st) h k n :=
  wp_if_le hd ht (fun q => kt (Nat.eq_zero_of_not_pos fun q2 => nI_nle q2 ha q)) (fun q => kf (Nat.pos_of_ne_zero fun q2 => q (by rw [q2, nI_0]; decide)))
theorem wp_if_gtN {a tgt : Nat} {off : Int} (hd : decode (mB y) pc = .ok (.ifCond .gt off, 3)) (ht : (pc : Int) + off = (tgt : Int)) (ha : a < 2 ^ 31) (kt : 0 < a → WP G y B tgt lv st h k n) (kf : a = 0 → WP G y B (pc + 3) lv st h k n) : WP G y B pc lv (.int (nI a) :: st) h k n :=
  wp_if_gt hd ht (fun q => kt (Nat.pos_of_ne_zero fun q2 => by rw [q2, nI_0] at q; exact absurd q (by decide))) (fun q => kf (Nat.eq_zero_of_not_pos fun q2 => q (by rw [← nI_0]; exact (nI_ltI (by decide) ha).mpr q2)))
theorem wp_if_ltN {a : Nat} {off : Int} {tgt : Nat} (hd : decode (mB y) pc = .ok (.ifCond .lt off, 3)) (ht : (pc : Int) + off = (tgt : Int)) (ha : a < 2 ^ 31) (kf : WP G y B (pc + 3) lv st h k n) : WP G y B pc lv (.int (nI a) :: st) h k n :=
  wp_if_lt hd ht (fun q => absurd q (nI_pos ha)) (fun _ => kf)
theorem wp_if_geN {a tgt : Nat} {off : Int} (hd : decode (mB y) pc = .ok (.ifCond .ge off, 3)) (ht : (pc : Int) + off = (tgt : Int)) (ha : a < 2 ^ 31) (kt : WP G y B tgt lv st h k n) : WP G y B pc lv (.int (nI a) :: st) h k n :=
  wp_if_ge hd ht (fun _ => kt) (fun q => absurd (nI_pos' ha) q)
end NatRules
