section Rules
variable {G : Gt} {y : Mi} {B : Bt} {pc : Nat} {lv : List (Nat × Value)} {st : List Value} {h : AHp} {k n : Nat}
theorem wp_iconst {i : Int} {v : Int32} (hd : decode (mB y) pc = .ok (.iconst i, 1)) (hv : Int32.ofInt i = v) (kk : WP G y B (pc + 1) lv (.int v :: st) h k n) : WP G y B pc lv (st) h k n := by
  intro p e R s m args below meth c hF H locs ls cells slots hP
  exact lv_iconst hF.1 hF.2.1 hd hv (kk p e R s m args below meth c hF H locs ls cells slots hP)
theorem wp_bipush {i : Int} {v : Int32} (hd : decode (mB y) pc = .ok (.bipush i, 2)) (hv : (Int8.ofInt i).toInt32 = v) (kk : WP G y B (pc + 2) lv (.int v :: st) h k n) : WP G y B pc lv (st) h k n := by
  intro p e R s m args below meth c hF H locs ls cells slots hP
  exact lv_bipush hF.1 hF.2.1 hd hv (kk p e R s m args below meth c hF H locs ls cells slots hP)
theorem wp_sipush {i : Int} {v : Int32} (hd : decode (mB y) pc = .ok (.sipush i, 3)) (hv : (Int16.ofInt i).toInt32 = v) (kk : WP G y B (pc + 3) lv (.int v :: st) h k n) : WP G y B pc lv (st) h k n := by
  intro p e R s m args below meth c hF H locs ls cells slots hP
  exact lv_sipush hF.1 hF.2.1 hd hv (kk p e R s m args below meth c hF H locs ls cells slots hP)
theorem wp_lconst {i : Fin 2} {v : Int64} (hd : decode (mB y) pc = .ok (.lconst i, 1)) (hv : Int64.ofNat (i : Nat) = v) (kk : WP G y B (pc + 1) lv (.long v :: st) h k n) : WP G y B pc lv (st) h k n := by
  intro p e R s m args below meth c hF H locs ls cells slots hP
  exact lv_lconst hF.1 hF.2.1 hd hv (kk p e R s m args below meth c hF H locs ls cells slots hP)
theorem wp_null  (hd : decode (mB y) pc = .ok (.aconst_null, 1)) (kk : WP G y B (pc + 1) lv (.null :: st) h k n) : WP G y B pc lv (st) h k n := by
  intro p e R s m args below meth c hF H locs ls cells slots hP
  exact lv_null hF.1 hF.2.1 hd  (kk p e R s m args below meth c hF H locs ls cells slots hP)
theorem wp_iload_n {j : Fin 4} {i : Nat} {x : Int32} (hd : decode (mB y) pc = .ok (.iload_n j, 1)) (hi : (j : Nat) = i) (k0 : Nat) (hk : lv[k0]? = some (i, .int x)) (kk : WP G y B (pc + 1) lv (.int x :: st) h k n) : WP G y B pc lv (st) h k n := by
  intro p e R s m args below meth c hF H locs ls cells slots hP
  exact lv_iload_n hF.1 hF.2.1 hd hi (lv_at hP.2.2.2.2.1 k0 hk) (kk p e R s m args below meth c hF H locs ls cells slots hP)
theorem wp_iload {i : Nat} {x : Int32} (hd : decode (mB y) pc = .ok (.iload i, 2)) (k0 : Nat) (hk : lv[k0]? = some (i, .int x)) (kk : WP G y B (pc + 2) lv (.int x :: st) h k n) : WP G y B pc lv (st) h k n := by
  intro p e R s m args below meth c hF H locs ls cells slots hP
  exact lv_iload hF.1 hF.2.1 hd (lv_at hP.2.2.2.2.1 k0 hk) (kk p e R s m args below meth c hF H locs ls cells slots hP)
theorem wp_lload_n {j : Fin 4} {i : Nat} {x : Int64} (hd : decode (mB y) pc = .ok (.lload_n j, 1)) (hi : (j : Nat) = i) (k0 : Nat) (hk : lv[k0]? = some (i, .long x)) (kk : WP G y B (pc + 1) lv (.long x :: st) h k n) : WP G y B pc lv (st) h k n := by
  intro p e R s m args below meth c hF H locs ls cells slots hP
  exact lv_lload_n hF.1 hF.2.1 hd hi (lv_at hP.2.2.2.2.1 k0 hk) (kk p e R s m args below meth c hF H locs ls cells slots hP)
theorem wp_lload {i : Nat} {x : Int64} (hd : decode (mB y) pc = .ok (.lload i, 2)) (k0 : Nat) (hk : lv[k0]? = some (i, .long x)) (kk : WP G y B (pc + 2) lv (.long x :: st) h k n) : WP G y B pc lv (st) h k n := by
  intro p e R s m args below meth c hF H locs ls cells slots hP
  exact lv_lload hF.1 hF.2.1 hd (lv_at hP.2.2.2.2.1 k0 hk) (kk p e R s m args below meth c hF H locs ls cells slots hP)
theorem wp_aload_n {j : Fin 4} {i : Nat} {x : Nat} (hd : decode (mB y) pc = .ok (.aload_n j, 1)) (hi : (j : Nat) = i) (k0 : Nat) (hk : lv[k0]? = some (i, .ref x)) (kk : WP G y B (pc + 1) lv (.ref x :: st) h k n) : WP G y B pc lv (st) h k n := by
  intro p e R s m args below meth c hF H locs ls cells slots hP
  exact lv_aload_n hF.1 hF.2.1 hd hi (lv_at hP.2.2.2.2.1 k0 hk) (kk p e R s m args below meth c hF H locs ls cells slots hP)
theorem wp_aload {i : Nat} {x : Nat} (hd : decode (mB y) pc = .ok (.aload i, 2)) (k0 : Nat) (hk : lv[k0]? = some (i, .ref x)) (kk : WP G y B (pc + 2) lv (.ref x :: st) h k n) : WP G y B pc lv (st) h k n := by
  intro p e R s m args below meth c hF H locs ls cells slots hP
  exact lv_aload hF.1 hF.2.1 hd (lv_at hP.2.2.2.2.1 k0 hk) (kk p e R s m args below meth c hF H locs ls cells slots hP)
theorem wp_aload_nN {j : Fin 4} {i : Nat} (hd : decode (mB y) pc = .ok (.aload_n j, 1)) (hi : (j : Nat) = i) (k0 : Nat) (hk : lv[k0]? = some (i, .null)) (kk : WP G y B (pc + 1) lv (.null :: st) h k n) : WP G y B pc lv (st) h k n := by
  intro p e R s m args below meth c hF H locs ls cells slots hP
  exact lv_aload_nN hF.1 hF.2.1 hd hi (lv_at hP.2.2.2.2.1 k0 hk) (kk p e R s m args below meth c hF H locs ls cells slots hP)
theorem wp_aloadN {i : Nat} (hd : decode (mB y) pc = .ok (.aload i, 2)) (k0 : Nat) (hk : lv[k0]? = some (i, .null)) (kk : WP G y B (pc + 2) lv (.null :: st) h k n) : WP G y B pc lv (st) h k n := by
  intro p e R s m args below meth c hF H locs ls cells slots hP
  exact lv_aloadN hF.1 hF.2.1 hd (lv_at hP.2.2.2.2.1 k0 hk) (kk p e R s m args below meth c hF H locs ls cells slots hP)
theorem wp_istore_n {j : Fin 4} {i : Nat} {x : Int32} {lv' : List (Nat × Value)} (hd : decode (mB y) pc = .ok (.istore_n j, 1)) (hi : (j : Nat) = i) (hn : i < mL y) (hl : (i, Value.int x) :: lv.filter (fun q => !(q.1 == i) && !(q.1 + 1 == i && q.2.category == 2)) = lv') (kk : WP G y B (pc + 1) lv' st h k n) : WP G y B pc lv (.int x :: st) h k n := by
  intro p e R s m args below meth c hF H locs ls cells slots hP
  exact lv_istore_n hF.1 hF.2.1 hd hi hP.2.2.2.2.1 hn hl (fun ls' hl' => kk p e R s m args below meth c hF H locs ls' cells slots ⟨hP.1, hP.2.1, hP.2.2.1, hP.2.2.2.1, hl', hP.2.2.2.2.2⟩)
theorem wp_istore {i : Nat} {x : Int32} {lv' : List (Nat × Value)} (hd : decode (mB y) pc = .ok (.istore i, 2)) (hn : i < mL y) (hl : (i, Value.int x) :: lv.filter (fun q => !(q.1 == i) && !(q.1 + 1 == i && q.2.category == 2)) = lv') (kk : WP G y B (pc + 2) lv' st h k n) : WP G y B pc lv (.int x :: st) h k n := by
  intro p e R s m args below meth c hF H locs ls cells slots hP
  exact lv_istore hF.1 hF.2.1 hd hP.2.2.2.2.1 hn hl (fun ls' hl' => kk p e R s m args below meth c hF H locs ls' cells slots ⟨hP.1, hP.2.1, hP.2.2.1, hP.2.2.2.1, hl', hP.2.2.2.2.2⟩)
theorem wp_lstore_n {j : Fin 4} {i : Nat} {x : Int64} {lv' : List (Nat × Value)} (hd : decode (mB y) pc = .ok (.lstore_n j, 1)) (hi : (j : Nat) = i) (hn : i + 1 < mL y) (hl : (i, Value.long x) :: lv.filter (fun q => !(q.1 == i) && (!(q.1 == i + 1) && !(q.1 + 1 == i && q.2.category == 2))) = lv') (kk : WP G y B (pc + 1) lv' st h k n) : WP G y B pc lv (.long x :: st) h k n := by
  intro p e R s m args below meth c hF H locs ls cells slots hP
  exact lv_lstore_n hF.1 hF.2.1 hd hi hP.2.2.2.2.1 hn hl (fun ls' hl' => kk p e R s m args below meth c hF H locs ls' cells slots ⟨hP.1, hP.2.1, hP.2.2.1, hP.2.2.2.1, hl', hP.2.2.2.2.2⟩)
theorem wp_lstore {i : Nat} {x : Int64} {lv' : List (Nat × Value)} (hd : decode (mB y) pc = .ok (.lstore i, 2)) (hn : i + 1 < mL y) (hl : (i, Value.long x) :: lv.filter (fun q => !(q.1 == i) && (!(q.1 == i + 1) && !(q.1 + 1 == i && q.2.category == 2))) = lv') (kk : WP G y B (pc + 2) lv' st h k n) : WP G y B pc lv (.long x :: st) h k n := by
  intro p e R s m args below meth c hF H locs ls cells slots hP
  exact lv_lstore hF.1 hF.2.1 hd hP.2.2.2.2.1 hn hl (fun ls' hl' => kk p e R s m args below meth c hF H locs ls' cells slots ⟨hP.1, hP.2.1, hP.2.2.1, hP.2.2.2.1, hl', hP.2.2.2.2.2⟩)
theorem wp_astore_n {j : Fin 4} {i : Nat} {x : Nat} {lv' : List (Nat × Value)} (hd : decode (mB y) pc = .ok (.astore_n j, 1)) (hi : (j : Nat) = i) (hn : i < mL y) (hl : (i, Value.ref x) :: lv.filter (fun q => !(q.1 == i) && !(q.1 + 1 == i && q.2.category == 2)) = lv') (kk : WP G y B (pc + 1) lv' st h k n) : WP G y B pc lv (.ref x :: st) h k n := by
  intro p e R s m args below meth c hF H locs ls cells slots hP
  exact lv_astore_n hF.1 hF.2.1 hd hi hP.2.2.2.2.1 hn hl (fun ls' hl' => kk p e R s m args below meth c hF H locs ls' cells slots ⟨hP.1, hP.2.1, hP.2.2.1, hP.2.2.2.1, hl', hP.2.2.2.2.2⟩)
theorem wp_astore {i : Nat} {x : Nat} {lv' : List (Nat × Value)} (hd : decode (mB y) pc = .ok (.astore i, 2)) (hn : i < mL y) (hl : (i, Value.ref x) :: lv.filter (fun q => !(q.1 == i) && !(q.1 + 1 == i && q.2.category == 2)) = lv') (kk : WP G y B (pc + 2) lv' st h k n) : WP G y B pc lv (.ref x :: st) h k n := by
  intro p e R s m args below meth c hF H locs ls cells slots hP
  exact lv_astore hF.1 hF.2.1 hd hP.2.2.2.2.1 hn hl (fun ls' hl' => kk p e R s m args below meth c hF H locs ls' cells slots ⟨hP.1, hP.2.1, hP.2.2.1, hP.2.2.2.1, hl', hP.2.2.2.2.2⟩)
theorem wp_astore_nN {j : Fin 4} {i : Nat} {lv' : List (Nat × Value)} (hd : decode (mB y) pc = .ok (.astore_n j, 1)) (hi : (j : Nat) = i) (hn : i < mL y) (hl : (i, Value.null) :: lv.filter (fun q => !(q.1 == i) && !(q.1 + 1 == i && q.2.category == 2)) = lv') (kk : WP G y B (pc + 1) lv' st h k n) : WP G y B pc lv (.null :: st) h k n := by
  intro p e R s m args below meth c hF H locs ls cells slots hP
  exact lv_astore_nN hF.1 hF.2.1 hd hi hP.2.2.2.2.1 hn hl (fun ls' hl' => kk p e R s m args below meth c hF H locs ls' cells slots ⟨hP.1, hP.2.1, hP.2.2.1, hP.2.2.2.1, hl', hP.2.2.2.2.2⟩)
theorem wp_astoreN {i : Nat} {lv' : List (Nat × Value)} (hd : decode (mB y) pc = .ok (.astore i, 2)) (hn : i < mL y) (hl : (i, Value.null) :: lv.filter (fun q => !(q.1 == i) && !(q.1 + 1 == i && q.2.category == 2)) = lv') (kk : WP G y B (pc + 2) lv' st h k n) : WP G y B pc lv (.null :: st) h k n := by
  intro p e R s m args below meth c hF H locs ls cells slots hP
  exact lv_astoreN hF.1 hF.2.1 hd hP.2.2.2.2.1 hn hl (fun ls' hl' => kk p e R s m args below meth c hF H locs ls' cells slots ⟨hP.1, hP.2.1, hP.2.2.1, hP.2.2.2.1, hl', hP.2.2.2.2.2⟩)
theorem wp_iinc {i : Nat} {c0 : Int} {x v : Int32} {lv' : List (Nat × Value)} (hd : decode (mB y) pc = .ok (.iinc i c0, 3)) (k0 : Nat) (hk : lv[k0]? = some (i, .int x)) (hv : x + Int32.ofInt c0 = v) (hn : i < mL y) (hl : (i, Value.int v) :: lv.filter (fun q => !(q.1 == i) && !(q.1 + 1 == i && q.2.category == 2)) = lv') (kk : WP G y B (pc + 3) lv' st h k n) : WP G y B pc lv st h k n := by
  intro p e R s m args below meth c hF H locs ls cells slots hP
  exact lv_iinc hF.1 hF.2.1 hd hP.2.2.2.2.1 hk hv hn hl (fun ls' hl' => kk p e R s m args below meth c hF H locs ls' cells slots ⟨hP.1, hP.2.1, hP.2.2.1, hP.2.2.2.1, hl', hP.2.2.2.2.2⟩)
theorem wp_iadd {x z : Int32} (hd : decode (mB y) pc = .ok (.iadd, 1)) (kk : WP G y B (pc + 1) lv (.int (x + z) :: st) h k n) : WP G y B pc lv (.int z :: .int x :: st) h k n := by
  intro p e R s m args below meth c hF H locs ls cells slots hP
  exact lv_iadd hF.1 hF.2.1 hd  (kk p e R s m args below meth c hF H locs ls cells slots hP)
theorem wp_isub {x z : Int32} (hd : decode (mB y) pc = .ok (.isub, 1)) (kk : WP G y B (pc + 1) lv (.int (x - z) :: st) h k n) : WP G y B pc lv (.int z :: .int x :: st) h k n := by
  intro p e R s m args below meth c hF H locs ls cells slots hP
  exact lv_isub hF.1 hF.2.1 hd  (kk p e R s m args below meth c hF H locs ls cells slots hP)
theorem wp_imul {x z : Int32} (hd : decode (mB y) pc = .ok (.imul, 1)) (kk : WP G y B (pc + 1) lv (.int (x * z) :: st) h k n) : WP G y B pc lv (.int z :: .int x :: st) h k n := by
  intro p e R s m args below meth c hF H locs ls cells slots hP
  exact lv_imul hF.1 hF.2.1 hd  (kk p e R s m args below meth c hF H locs ls cells slots hP)
theorem wp_iand {x z : Int32} (hd : decode (mB y) pc = .ok (.iand, 1)) (kk : WP G y B (pc + 1) lv (.int (x &&& z) :: st) h k n) : WP G y B pc lv (.int z :: .int x :: st) h k n := by
  intro p e R s m args below meth c hF H locs ls cells slots hP
  exact lv_iand hF.1 hF.2.1 hd  (kk p e R s m args below meth c hF H locs ls cells slots hP)
theorem wp_ior {x z : Int32} (hd : decode (mB y) pc = .ok (.ior, 1)) (kk : WP G y B (pc + 1) lv (.int (x ||| z) :: st) h k n) : WP G y B pc lv (.int z :: .int x :: st) h k n := by
  intro p e R s m args below meth c hF H locs ls cells slots hP
  exact lv_ior hF.1 hF.2.1 hd  (kk p e R s m args below meth c hF H locs ls cells slots hP)
theorem wp_ixor {x z : Int32} (hd : decode (mB y) pc = .ok (.ixor, 1)) (kk : WP G y B (pc + 1) lv (.int (x ^^^ z) :: st) h k n) : WP G y B pc lv (.int z :: .int x :: st) h k n := by
  intro p e R s m args below meth c hF H locs ls cells slots hP
  exact lv_ixor hF.1 hF.2.1 hd  (kk p e R s m args below meth c hF H locs ls cells slots hP)
theorem wp_ishl {x z : Int32} (hd : decode (mB y) pc = .ok (.ishl, 1)) (kk : WP G y B (pc + 1) lv (.int (x <<< (z &&& 31)) :: st) h k n) : WP G y B pc lv (.int z :: .int x :: st) h k n := by
  intro p e R s m args below meth c hF H locs ls cells slots hP
  exact lv_ishl hF.1 hF.2.1 hd  (kk p e R s m args below meth c hF H locs ls cells slots hP)
theorem wp_ishr {x z : Int32} (hd : decode (mB y) pc = .ok (.ishr, 1)) (kk : WP G y B (pc + 1) lv (.int (x >>> (z &&& 31)) :: st) h k n) : WP G y B pc lv (.int z :: .int x :: st) h k n := by
  intro p e R s m args below meth c hF H locs ls cells slots hP
  exact lv_ishr hF.1 hF.2.1 hd  (kk p e R s m args below meth c hF H locs ls cells slots hP)
theorem wp_idiv {x z : Int32} (hd : decode (mB y) pc = .ok (.idiv, 1)) (hne : ¬ z = 0) (kk : WP G y B (pc + 1) lv (.int (x / z) :: st) h k n) : WP G y B pc lv (.int z :: .int x :: st) h k n := by
  intro p e R s m args below meth c hF H locs ls cells slots hP
  exact lv_idiv hF.1 hF.2.1 hd hne (kk p e R s m args below meth c hF H locs ls cells slots hP)
theorem wp_irem {x z : Int32} (hd : decode (mB y) pc = .ok (.irem, 1)) (hne : ¬ z = 0) (kk : WP G y B (pc + 1) lv (.int (x - x / z * z) :: st) h k n) : WP G y B pc lv (.int z :: .int x :: st) h k n := by
  intro p e R s m args below meth c hF H locs ls cells slots hP
  exact lv_irem hF.1 hF.2.1 hd hne (kk p e R s m args below meth c hF H locs ls cells slots hP)
theorem wp_ineg {x : Int32} (hd : decode (mB y) pc = .ok (.ineg, 1)) (kk : WP G y B (pc + 1) lv (.int (-x) :: st) h k n) : WP G y B pc lv (.int x :: st) h k n := by
  intro p e R s m args below meth c hF H locs ls cells slots hP
  exact lv_ineg hF.1 hF.2.1 hd  (kk p e R s m args below meth c hF H locs ls cells slots hP)
theorem wp_iushr {x z v : Int32} (hd : decode (mB y) pc = .ok (.iushr, 1)) (hv : (x.toUInt32 >>> (z.toUInt32 &&& Int32.toUInt32 31)).toInt32 = v) (kk : WP G y B (pc + 1) lv (.int v :: st) h k n) : WP G y B pc lv (.int z :: .int x :: st) h k n := by
  intro p e R s m args below meth c hF H locs ls cells slots hP
  exact lv_iushr hF.1 hF.2.1 hd hv (kk p e R s m args below meth c hF H locs ls cells slots hP)
theorem wp_ladd {x z : Int64} (hd : decode (mB y) pc = .ok (.ladd, 1)) (kk : WP G y B (pc + 1) lv (.long (x + z) :: st) h k n) : WP G y B pc lv (.long z :: .long x :: st) h k n := by
  intro p e R s m args below meth c hF H locs ls cells slots hP
  exact lv_ladd hF.1 hF.2.1 hd  (kk p e R s m args below meth c hF H locs ls cells slots hP)
theorem wp_lsub {x z : Int64} (hd : decode (mB y) pc = .ok (.lsub, 1)) (kk : WP G y B (pc + 1) lv (.long (x - z) :: st) h k n) : WP G y B pc lv (.long z :: .long x :: st) h k n := by
  intro p e R s m args below meth c hF H locs ls cells slots hP
  exact lv_lsub hF.1 hF.2.1 hd  (kk p e R s m args below meth c hF H locs ls cells slots hP)
theorem wp_lmul {x z : Int64} (hd : decode (mB y) pc = .ok (.lmul, 1)) (kk : WP G y B (pc + 1) lv (.long (x * z) :: st) h k n) : WP G y B pc lv (.long z :: .long x :: st) h k n := by
  intro p e R s m args below meth c hF H locs ls cells slots hP
  exact lv_lmul hF.1 hF.2.1 hd  (kk p e R s m args below meth c hF H locs ls cells slots hP)
theorem wp_land {x z : Int64} (hd : decode (mB y) pc = .ok (.land, 1)) (kk : WP G y B (pc + 1) lv (.long (x &&& z) :: st) h k n) : WP G y B pc lv (.long z :: .long x :: st) h k n := by
  intro p e R s m args below meth c hF H locs ls cells slots hP
  exact lv_land hF.1 hF.2.1 hd  (kk p e R s m args below meth c hF H locs ls cells slots hP)
theorem wp_lor {x z : Int64} (hd : decode (mB y) pc = .ok (.lor, 1)) (kk : WP G y B (pc + 1) lv (.long (x ||| z) :: st) h k n) : WP G y B pc lv (.long z :: .long x :: st) h k n := by
  intro p e R s m args below meth c hF H locs ls cells slots hP
  exact lv_lor hF.1 hF.2.1 hd  (kk p e R s m args below meth c hF H locs ls cells slots hP)
theorem wp_lxor {x z : Int64} (hd : decode (mB y) pc = .ok (.lxor, 1)) (kk : WP G y B (pc + 1) lv (.long (x ^^^ z) :: st) h k n) : WP G y B pc lv (.long z :: .long x :: st) h k n := by
  intro p e R s m args below meth c hF H locs ls cells slots hP
  exact lv_lxor hF.1 hF.2.1 hd  (kk p e R s m args below meth c hF H locs ls cells slots hP)
theorem wp_lushr {x v : Int64} {z : Int32} (hd : decode (mB y) pc = .ok (.lushr, 1)) (hv : (x.toUInt64 >>> (z.toInt64.toUInt64 &&& Int64.toUInt64 63)).toInt64 = v) (kk : WP G y B (pc + 1) lv (.long v :: st) h k n) : WP G y B pc lv (.int z :: .long x :: st) h k n := by
  intro p e R s m args below meth c hF H locs ls cells slots hP
  exact lv_lushr hF.1 hF.2.1 hd hv (kk p e R s m args below meth c hF H locs ls cells slots hP)
theorem wp_lshl {x v : Int64} {z : Int32} (hd : decode (mB y) pc = .ok (.lshl, 1)) (hv : x <<< (z.toInt64 &&& 63) = v) (kk : WP G y B (pc + 1) lv (.long v :: st) h k n) : WP G y B pc lv (.int z :: .long x :: st) h k n := by
  intro p e R s m args below meth c hF H locs ls cells slots hP
  exact lv_lshl hF.1 hF.2.1 hd hv (kk p e R s m args below meth c hF H locs ls cells slots hP)
theorem wp_lshr {x v : Int64} {z : Int32} (hd : decode (mB y) pc = .ok (.lshr, 1)) (hv : x >>> (z.toInt64 &&& 63) = v) (kk : WP G y B (pc + 1) lv (.long v :: st) h k n) : WP G y B pc lv (.int z :: .long x :: st) h k n := by
  intro p e R s m args below meth c hF H locs ls cells slots hP
  exact lv_lshr hF.1 hF.2.1 hd hv (kk p e R s m args below meth c hF H locs ls cells slots hP)
theorem wp_i2l {x : Int32} {v : Int64} (hd : decode (mB y) pc = .ok (.i2l, 1)) (hv : x.toInt64 = v) (kk : WP G y B (pc + 1) lv (.long v :: st) h k n) : WP G y B pc lv (.int x :: st) h k n := by
  intro p e R s m args below meth c hF H locs ls cells slots hP
  exact lv_i2l hF.1 hF.2.1 hd hv (kk p e R s m args below meth c hF H locs ls cells slots hP)
theorem wp_l2i {x : Int64} {v : Int32} (hd : decode (mB y) pc = .ok (.l2i, 1)) (hv : x.toInt32 = v) (kk : WP G y B (pc + 1) lv (.int v :: st) h k n) : WP G y B pc lv (.long x :: st) h k n := by
  intro p e R s m args below meth c hF H locs ls cells slots hP
  exact lv_l2i hF.1 hF.2.1 hd hv (kk p e R s m args below meth c hF H locs ls cells slots hP)
theorem wp_i2b {x : Int32} {v : Int32} (hd : decode (mB y) pc = .ok (.i2b, 1)) (hv : x.toInt8.toInt32 = v) (kk : WP G y B (pc + 1) lv (.int v :: st) h k n) : WP G y B pc lv (.int x :: st) h k n := by
  intro p e R s m args below meth c hF H locs ls cells slots hP
  exact lv_i2b hF.1 hF.2.1 hd hv (kk p e R s m args below meth c hF H locs ls cells slots hP)
theorem wp_i2s {x : Int32} {v : Int32} (hd : decode (mB y) pc = .ok (.i2s, 1)) (hv : x.toInt16.toInt32 = v) (kk : WP G y B (pc + 1) lv (.int v :: st) h k n) : WP G y B pc lv (.int x :: st) h k n := by
  intro p e R s m args below meth c hF H locs ls cells slots hP
  exact lv_i2s hF.1 hF.2.1 hd hv (kk p e R s m args below meth c hF H locs ls cells slots hP)
theorem wp_i2c {x : Int32} {v : Int32} (hd : decode (mB y) pc = .ok (.i2c, 1)) (hv : (x.toUInt32 % 65536).toInt32 = v) (kk : WP G y B (pc + 1) lv (.int v :: st) h k n) : WP G y B pc lv (.int x :: st) h k n := by
  intro p e R s m args below meth c hF H locs ls cells slots hP
  exact lv_i2c hF.1 hF.2.1 hd hv (kk p e R s m args below meth c hF H locs ls cells slots hP)
theorem wp_dup {va : Value} (hd : decode (mB y) pc = .ok (.dup, 1)) (ha : va.category = 1) (kk : WP G y B (pc + 1) lv (va :: va :: st) h k n) : WP G y B pc lv (va :: st) h k n := by
  intro p e R s m args below meth c hF H locs ls cells slots hP
  exact lv_dup hF.1 hF.2.1 hd ha (kk p e R s m args below meth c hF H locs ls cells slots hP)
theorem wp_pop {va : Value} (hd : decode (mB y) pc = .ok (.pop, 1)) (ha : va.category = 1) (kk : WP G y B (pc + 1) lv (st) h k n) : WP G y B pc lv (va :: st) h k n := by
  intro p e R s m args below meth c hF H locs ls cells slots hP
  exact lv_pop hF.1 hF.2.1 hd ha (kk p e R s m args below meth c hF H locs ls cells slots hP)
theorem wp_dup_x1 {va vb : Value} (hd : decode (mB y) pc = .ok (.dup_x1, 1)) (ha : va.category = 1) (hb : vb.category = 1) (kk : WP G y B (pc + 1) lv (va :: vb :: va :: st) h k n) : WP G y B pc lv (va :: vb :: st) h k n := by
  intro p e R s m args below meth c hF H locs ls cells slots hP
  exact lv_dup_x1 hF.1 hF.2.1 hd ha hb (kk p e R s m args below meth c hF H locs ls cells slots hP)
theorem wp_dup_x2 {va vb vd : Value} (hd : decode (mB y) pc = .ok (.dup_x2, 1)) (ha : va.category = 1) (hb : vb.category = 1) (hc : vd.category = 1) (kk : WP G y B (pc + 1) lv (va :: vb :: vd :: va :: st) h k n) : WP G y B pc lv (va :: vb :: vd :: st) h k n := by
  intro p e R s m args below meth c hF H locs ls cells slots hP
  exact lv_dup_x2 hF.1 hF.2.1 hd ha hb hc (kk p e R s m args below meth c hF H locs ls cells slots hP)
theorem wp_dup2 {va vb : Value} (hd : decode (mB y) pc = .ok (.dup2, 1)) (ha : va.category = 1) (hb : vb.category = 1) (kk : WP G y B (pc + 1) lv (va :: vb :: va :: vb :: st) h k n) : WP G y B pc lv (va :: vb :: st) h k n := by
  intro p e R s m args below meth c hF H locs ls cells slots hP
  exact lv_dup2_11 hF.1 hF.2.1 hd ha hb (kk p e R s m args below meth c hF H locs ls cells slots hP)
theorem wp_if_eq {x : Int32} {off : Int} {tgt : Nat} (hd : decode (mB y) pc = .ok (.ifCond .eq off, 3)) (ht : (pc : Int) + off = (tgt : Int)) (kt : x = 0 → WP G y B tgt lv st h k n) (kf : ¬ x = 0 → WP G y B (pc + 3) lv st h k n) : WP G y B pc lv (.int x :: st) h k n := by
  intro p e R s m args below meth c hF H locs ls cells slots hP
  exact lv_if_eq hF.1 hF.2.1 hd ht (fun q => kt q p e R s m args below meth c hF H locs ls cells slots hP) (fun q => kf q p e R s m args below meth c hF H locs ls cells slots hP)
theorem wp_icmp_eq {x z : Int32} {off : Int} {tgt : Nat} (hd : decode (mB y) pc = .ok (.if_icmp .eq off, 3)) (ht : (pc : Int) + off = (tgt : Int)) (kt : x = z → WP G y B tgt lv st h k n) (kf : ¬ x = z → WP G y B (pc + 3) lv st h k n) : WP G y B pc lv (.int z :: .int x :: st) h k n := by
  intro p e R s m args below meth c hF H locs ls cells slots hP
  exact lv_icmp_eq hF.1 hF.2.1 hd ht (fun q => kt q p e R s m args below meth c hF H locs ls cells slots hP) (fun q => kf q p e R s m args below meth c hF H locs ls cells slots hP)
theorem wp_if_ne {x : Int32} {off : Int} {tgt : Nat} (hd : decode (mB y) pc = .ok (.ifCond .ne off, 3)) (ht : (pc : Int) + off = (tgt : Int)) (kt : ¬ x = 0 → WP G y B tgt lv st h k n) (kf : x = 0 → WP G y B (pc + 3) lv st h k n) : WP G y B pc lv (.int x :: st) h k n := by
  intro p e R s m args below meth c hF H locs ls cells slots hP
  exact lv_if_ne hF.1 hF.2.1 hd ht (fun q => kt q p e R s m args below meth c hF H locs ls cells slots hP) (fun q => kf q p e R s m args below meth c hF H locs ls cells slots hP)
theorem wp_icmp_ne {x z : Int32} {off : Int} {tgt : Nat} (hd : decode (mB y) pc = .ok (.if_icmp .ne off, 3)) (ht : (pc : Int) + off = (tgt : Int)) (kt : ¬ x = z → WP G y B tgt lv st h k n) (kf : x = z → WP G y B (pc + 3) lv st h k n) : WP G y B pc lv (.int z :: .int x :: st) h k n := by
  intro p e R s m args below meth c hF H locs ls cells slots hP
  exact lv_icmp_ne hF.1 hF.2.1 hd ht (fun q => kt q p e R s m args below meth c hF H locs ls cells slots hP) (fun q => kf q p e R s m args below meth c hF H locs ls cells slots hP)
theorem wp_if_lt {x : Int32} {off : Int} {tgt : Nat} (hd : decode (mB y) pc = .ok (.ifCond .lt off, 3)) (ht : (pc : Int) + off = (tgt : Int)) (kt : x < 0 → WP G y B tgt lv st h k n) (kf : ¬ x < 0 → WP G y B (pc + 3) lv st h k n) : WP G y B pc lv (.int x :: st) h k n := by
  intro p e R s m args below meth c hF H locs ls cells slots hP
  exact lv_if_lt hF.1 hF.2.1 hd ht (fun q => kt q p e R s m args below meth c hF H locs ls cells slots hP) (fun q => kf q p e R s m args below meth c hF H locs ls cells slots hP)
theorem wp_icmp_lt {x z : Int32} {off : Int} {tgt : Nat} (hd : decode (mB y) pc = .ok (.if_icmp .lt off, 3)) (ht : (pc : Int) + off = (tgt : Int)) (kt : x < z → WP G y B tgt lv st h k n) (kf : ¬ x < z → WP G y B (pc + 3) lv st h k n) : WP G y B pc lv (.int z :: .int x :: st) h k n := by
  intro p e R s m args below meth c hF H locs ls cells slots hP
  exact lv_icmp_lt hF.1 hF.2.1 hd ht (fun q => kt q p e R s m args below meth c hF H locs ls cells slots hP) (fun q => kf q p e R s m args below meth c hF H locs ls cells slots hP)
theorem wp_if_ge {x : Int32} {off : Int} {tgt : Nat} (hd : decode (mB y) pc = .ok (.ifCond .ge off, 3)) (ht : (pc : Int) + off = (tgt : Int)) (kt : 0 ≤ x → WP G y B tgt lv st h k n) (kf : ¬ 0 ≤ x → WP G y B (pc + 3) lv st h k n) : WP G y B pc lv (.int x :: st) h k n := by
  intro p e R s m args below meth c hF H locs ls cells slots hP
  exact lv_if_ge hF.1 hF.2.1 hd ht (fun q => kt q p e R s m args below meth c hF H locs ls cells slots hP) (fun q => kf q p e R s m args below meth c hF H locs ls cells slots hP)
theorem wp_icmp_ge {x z : Int32} {off : Int} {tgt : Nat} (hd : decode (mB y) pc = .ok (.if_icmp .ge off, 3)) (ht : (pc : Int) + off = (tgt : Int)) (kt : z ≤ x → WP G y B tgt lv st h k n) (kf : ¬ z ≤ x → WP G y B (pc + 3) lv st h k n) : WP G y B pc lv (.int z :: .int x :: st) h k n := by
  intro p e R s m args below meth c hF H locs ls cells slots hP
  exact lv_icmp_ge hF.1 hF.2.1 hd ht (fun q => kt q p e R s m args below meth c hF H locs ls cells slots hP) (fun q => kf q p e R s m args below meth c hF H locs ls cells slots hP)
theorem wp_if_gt {x : Int32} {off : Int} {tgt : Nat} (hd : decode (mB y) pc = .ok (.ifCond .gt off, 3)) (ht : (pc : Int) + off = (tgt : Int)) (kt : 0 < x → WP G y B tgt lv st h k n) (kf : ¬ 0 < x → WP G y B (pc + 3) lv st h k n) : WP G y B pc lv (.int x :: st) h k n := by
  intro p e R s m args below meth c hF H locs ls cells slots hP
  exact lv_if_gt hF.1 hF.2.1 hd ht (fun q => kt q p e R s m args below meth c hF H locs ls cells slots hP) (fun q => kf q p e R s m args below meth c hF H locs ls cells slots hP)
theorem wp_icmp_gt {x z : Int32} {off : Int} {tgt : Nat} (hd : decode (mB y) pc = .ok (.if_icmp .gt off, 3)) (ht : (pc : Int) + off = (tgt : Int)) (kt : z < x → WP G y B tgt lv st h k n) (kf : ¬ z < x → WP G y B (pc + 3) lv st h k n) : WP G y B pc lv (.int z :: .int x :: st) h k n := by
  intro p e R s m args below meth c hF H locs ls cells slots hP
  exact lv_icmp_gt hF.1 hF.2.1 hd ht (fun q => kt q p e R s m args below meth c hF H locs ls cells slots hP) (fun q => kf q p e R s m args below meth c hF H locs ls cells slots hP)
theorem wp_if_le {x : Int32} {off : Int} {tgt : Nat} (hd : decode (mB y) pc = .ok (.ifCond .le off, 3)) (ht : (pc : Int) + off = (tgt : Int)) (kt : x ≤ 0 → WP G y B tgt lv st h k n) (kf : ¬ x ≤ 0 → WP G y B (pc + 3) lv st h k n) : WP G y B pc lv (.int x :: st) h k n := by
  intro p e R s m args below meth c hF H locs ls cells slots hP
  exact lv_if_le hF.1 hF.2.1 hd ht (fun q => kt q p e R s m args below meth c hF H locs ls cells slots hP) (fun q => kf q p e R s m args below meth c hF H locs ls cells slots hP)
theorem wp_icmp_le {x z : Int32} {off : Int} {tgt : Nat} (hd : decode (mB y) pc = .ok (.if_icmp .le off, 3)) (ht : (pc : Int) + off = (tgt : Int)) (kt : x ≤ z → WP G y B tgt lv st h k n) (kf : ¬ x ≤ z → WP G y B (pc + 3) lv st h k n) : WP G y B pc lv (.int z :: .int x :: st) h k n := by
  intro p e R s m args below meth c hF H locs ls cells slots hP
  exact lv_icmp_le hF.1 hF.2.1 hd ht (fun q => kt q p e R s m args below meth c hF H locs ls cells slots hP) (fun q => kf q p e R s m args below meth c hF H locs ls cells slots hP)
theorem wp_goto {off : Int} {tgt : Nat} (hd : decode (mB y) pc = .ok (.goto off, 3)) (ht : (pc : Int) + off = (tgt : Int)) (kk : WP G y B tgt lv st h k n) : WP G y B pc lv st h k n := by
  intro p e R s m args below meth c hF H locs ls cells slots hP
  exact lv_goto hF.1 hF.2.1 hd ht (kk p e R s m args below meth c hF H locs ls cells slots hP)
theorem wp_ifnull {x : Nat} {off : Int} (hd : decode (mB y) pc = .ok (.ifnull off, 3)) (kk : WP G y B (pc + 3) lv st h k n) : WP G y B pc lv (.ref x :: st) h k n := by
  intro p e R s m args below meth c hF H locs ls cells slots hP
  exact lv_ifnull hF.1 hF.2.1 hd (kk p e R s m args below meth c hF H locs ls cells slots hP)
theorem wp_ifnullN {off : Int} {tgt : Nat} (hd : decode (mB y) pc = .ok (.ifnull off, 3)) (ht : (pc : Int) + off = (tgt : Int)) (kk : WP G y B tgt lv st h k n) : WP G y B pc lv (.null :: st) h k n := by
  intro p e R s m args below meth c hF H locs ls cells slots hP
  exact lv_ifnullN hF.1 hF.2.1 hd ht (kk p e R s m args below meth c hF H locs ls cells slots hP)
theorem wp_ifnonnull {x : Nat} {off : Int} {tgt : Nat} (hd : decode (mB y) pc = .ok (.ifnonnull off, 3)) (ht : (pc : Int) + off = (tgt : Int)) (kk : WP G y B tgt lv st h k n) : WP G y B pc lv (.ref x :: st) h k n := by
  intro p e R s m args below meth c hF H locs ls cells slots hP
  exact lv_ifnonnull hF.1 hF.2.1 hd ht (kk p e R s m args below meth c hF H locs ls cells slots hP)
theorem wp_ifnonnullN {off : Int} (hd : decode (mB y) pc = .ok (.ifnonnull off, 3)) (kk : WP G y B (pc + 3) lv st h k n) : WP G y B pc lv (.null :: st) h k n := by
  intro p e R s m args below meth c hF H locs ls cells slots hP
  exact lv_ifnonnullN hF.1 hF.2.1 hd (kk p e R s m args below meth c hF H locs ls cells slots hP)
theorem wp_lookup {dflt : Int} {ps : Array (Int × Int)} {len : Nat} {x : Int32} {off : Int} {tgt : Nat} (hd : decode (mB y) pc = .ok (.lookupswitch dflt ps, len)) (hp : (ps.toList.zip (ps.toList.drop 1)).all (fun (a, next) => a.1 < next.1) = true) (ho : Op.lookupswitch.offset ps.toList dflt x.toInt = off) (ht : (pc : Int) + off = (tgt : Int)) (kk : WP G y B tgt lv st h k n) : WP G y B pc lv (.int x :: st) h k n := by
  intro p e R s m args below meth c hF H locs ls cells slots hP
  exact lv_lookup hF.1 hF.2.1 hd hp ho ht (kk p e R s m args below meth c hF H locs ls cells slots hP)
theorem wp_tableOut {dflt lo hi : Int} {offs : Array Int} {len : Nat} {x : Int32} {tgt : Nat} (hd : decode (mB y) pc = .ok (.tableswitch dflt lo hi offs, len)) (hq : x.toInt < lo ∨ hi < x.toInt) (ht : (pc : Int) + dflt = (tgt : Int)) (kk : WP G y B tgt lv st h k n) : WP G y B pc lv (.int x :: st) h k n := by
  intro p e R s m args below meth c hF H locs ls cells slots hP
  exact lv_tableOut hF.1 hF.2.1 hd hq ht (kk p e R s m args below meth c hF H locs ls cells slots hP)
theorem wp_tableIn {dflt lo hi : Int} {offs : Array Int} {len : Nat} {x : Int32} {off : Int} {tgt : Nat} (hd : decode (mB y) pc = .ok (.tableswitch dflt lo hi offs, len)) (h1 : ¬ x.toInt < lo) (h2 : ¬ hi < x.toInt) (ho : offs[(x.toInt - lo).toNat]? = some off) (ht : (pc : Int) + off = (tgt : Int)) (kk : WP G y B tgt lv st h k n) : WP G y B pc lv (.int x :: st) h k n := by
  intro p e R s m args below meth c hF H locs ls cells slots hP
  exact lv_tableIn hF.1 hF.2.1 hd h1 h2 ho ht (kk p e R s m args below meth c hF H locs ls cells slots hP)
theorem wp_lv {lv' : List (Nat × Value)} (ks : List Nat) (hl : lv_pick lv ks = lv') (kk : WP G y B pc lv' st h k n) : WP G y B pc lv st h k n := by
  intro p e R s m args below meth c hF H locs ls cells slots hP
  exact kk p e R s m args below meth c hF H locs ls cells slots ⟨hP.1, hP.2.1, hP.2.2.1, hP.2.2.2.1, lv_sub hP.2.2.2.2.1 ks hl, hP.2.2.2.2.2⟩
theorem wp_room {k' n' : Nat} (hk : k' ≤ k) (hn : n' ≤ n) (kk : WP G y B pc lv st h k' n') : WP G y B pc lv st h k n := by
  intro p e R s m args below meth c hF H locs ls cells slots hP
  exact kk p e R s m args below meth c hF H locs ls cells slots ⟨hP.1, hP.2.1, hP.2.2.1, hP.2.2.2.1, hP.2.2.2.2.1, by have := hP.2.2.2.2.2.1; omega, by have := hP.2.2.2.2.2.2.1; omega, hP.2.2.2.2.2.2.2⟩
end Rules
