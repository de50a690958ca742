/-! HOW THE CLASS'S WORLD HOLDS THE STATE. Γ: the addresses of what there is; ρ: a mark of each -/
section RepN
abbrev Gm : Type := Nat → Nat → Nat
def cbI : Nat → Int32
  | 0 => -1
  | k + 1 => nI k
def akI : Option Nat → Int32
  | none => -3
  | some t => nI t
def otC (c : Nat) : Nat := c + 1 - 2 * (c % 2)
/-- the desks of a message, as bits -/
def dkB (dk : Nat → List Nat) (m : Nat) : Nat := sumN 6 (fun x => if m ∈ dk x then 2 ^ x else 0)
def RNt (Γ : Gm) (ρ K N : Nat → Nat) (I : Nat → Nat → Int32) (R : Nat → Nat → Option Nat) (s : Sa) : Prop := K (Γ 0 0) = 0 + 1 ∧ R 0 (Γ 0 0) = some (Γ 0 1) ∧ R 1 (Γ 0 0) = some (Γ 0 4) ∧ R 2 (Γ 0 0) = some (Γ 0 5) ∧ R 3 (Γ 0 0) = some (Γ 0 6) ∧ R 4 (Γ 0 0) = some (Γ 0 7) ∧ I 5 (Γ 0 0) = nI (sMs s).length ∧ I 6 (Γ 0 0) = nI (sMin s) ∧
  K (Γ 0 4) = 20 + 8 ∧ N (Γ 0 4) = 6 ∧ K (Γ 0 5) = 20 + 9 ∧ N (Γ 0 5) = 8 ∧ K (Γ 0 6) = 20 + 7 ∧ N (Γ 0 6) = 200 ∧ ρ (Γ 0 6) = 6 ∧ K (Γ 0 7) = 20 + 0 ∧ N (Γ 0 7) = 8
def RDr (Γ : Gm) (ρ K N : Nat → Nat) (R : Nat → Nat → Option Nat) (E : Nat → Nat → Int32) (s : Sa) : Prop := K (Γ 0 1) = 4 + 1 ∧ K (Γ 0 2) = 20 + 2 ∧ K (Γ 0 3) = 20 + 1 ∧ R 21 (Γ 0 1) = some (Γ 0 2) ∧ R 22 (Γ 0 1) = some (Γ 0 3) ∧ N (Γ 0 2) = 1600 ∧ N (Γ 0 3) = 7 ∧ ρ (Γ 0 2) = 2 ∧ ρ (Γ 0 3) = 3 ∧ ∀ p, p < 1600 → E (Γ 0 2) p = b8 (txtR (sLog s) p)
def RSw (Γ : Gm) (ρ K N : Nat → Nat) (I : Nat → Nat → Int32) (R Er : Nat → Nat → Option Nat) (s : Sa) : Prop := ∀ x, x < 6 → Er (Γ 0 4) x = some (Γ 1 x) ∧ K (Γ 1 x) = 10 + 1 ∧ ρ (Γ 1 x) = 10000 + x ∧ R 48 (Γ 1 x) = some (Γ 2 x) ∧ R 49 (Γ 1 x) = some (Γ 3 x) ∧ R 50 (Γ 1 x) = some (Γ 4 x) ∧ K (Γ 2 x) = 20 + 6 ∧ N (Γ 2 x) = 16 ∧ ρ (Γ 2 x) = 20000 + x ∧ K (Γ 3 x) = 20 + 7 ∧ N (Γ 3 x) = 200 ∧ ρ (Γ 3 x) = 30000 + x ∧
  I 51 (Γ 1 x) = nI (sRt s x).length ∧ I 52 (Γ 1 x) = nI (sDk s x).length ∧ I 53 (Γ 1 x) = nI (degree s x) ∧ I 54 (Γ 1 x) = nI (sUn s x) ∧ I 55 (Γ 1 x) = nI (sDb s x)
def en1 (Γ : Gm) (K : Nat → Nat) (I : Nat → Nat → Int32) (L : Nat → Nat → Int64) (q : Nat) (e : List Nat × Option Nat × Option Nat) : Prop := K (Γ 5 q) = 5 + 1 ∧ L 28 (Γ 5 q) = lN (leN e.1) ∧ I 29 (Γ 5 q) = nI e.1.length ∧ I 30 (Γ 5 q) = o2i e.2.1 ∧ I 31 (Γ 5 q) = o2i e.2.2
def REn (Γ : Gm) (K : Nat → Nat) (I : Nat → Nat → Int32) (L : Nat → Nat → Int64) (Er : Nat → Nat → Option Nat) (s : Sa) : Prop := ∀ x, x < 6 → ∀ k, k < 16 → ((sRt s x)[k]? = none → Er (Γ 2 x) k = none) ∧ ∀ e, (sRt s x)[k]? = some e → Er (Γ 2 x) k = some (Γ 5 (16 * x + k)) ∧ en1 Γ K I L (16 * x + k) e
def RDkN (Γ : Gm) (Er : Nat → Nat → Option Nat) (s : Sa) : Prop := ∀ x, x < 6 → ∀ i m, (sDk s x)[i]? = some m → Er (Γ 3 x) i = some (Γ 14 m)
abbrev Cy : Type := Nat × Nat × Nat × Nat
def cp1 (Γ : Gm) (I : Nat → Nat → Int32) (R : Nat → Nat → Option Nat) (a : Nat) (c : Cy) : Prop := R 14 a = some (Γ 14 c.2.1) ∧ I 15 a = nI c.2.2.1 ∧ I 16 a = cbI c.2.2.2
/-- a list of copies and what the state says is in it -/
def LsC (Γ : Gm) (ρ K : Nat → Nat) (I : Nat → Nat → Int32) (R : Nat → Nat → Option Nat) (t l : Nat) (cs : List Cy) : Prop := ∃ ps : List (Nat × Cy), CLs K I R ρ t l (ps.map Prod.fst) ∧ ps.map Prod.snd = cs ∧ ∀ q ∈ ps, cp1 Γ I R q.1 q.2
def hlF (s : Sa) (x : Nat) : List Cy := (sCp s).filter fun c => c.1 == 16 + x
def quF (s : Sa) (c p : Nat) : List Cy := (sCp s).filter fun q => q.1 == c && prioOf s q.2.1 == p
def RHl (Γ : Gm) (ρ K : Nat → Nat) (I : Nat → Nat → Int32) (R : Nat → Nat → Option Nat) (s : Sa) : Prop := ∀ x, x < 6 → ρ (Γ 4 x) = 40000 + x ∧ LsC Γ ρ K I R (800000 + x) (Γ 4 x) (hlF s x)
def RQu (Γ : Gm) (ρ K : Nat → Nat) (I : Nat → Nat → Int32) (R Er : Nat → Nat → Option Nat) (s : Sa) : Prop := ∀ c, c < 16 → (sLn s (c / 2)).isSome = true → ∀ p, p < 5 → Er (Γ 8 c) p = some (Γ 9 (5 * c + p)) ∧ ρ (Γ 9 (5 * c + p)) = 90000 + (5 * c + p) ∧ LsC Γ ρ K I R (900000 + (5 * c + p)) (Γ 9 (5 * c + p)) (quF s c p)
def RLi (Γ : Gm) (ρ K : Nat → Nat) (I : Nat → Nat → Int32) (R Er : Nat → Nat → Option Nat) (s : Sa) : Prop := ∀ l, l < 8 → (sLn s l = none → Er (Γ 0 5) l = none) ∧ ∀ a b v, sLn s l = some (a, b, v) → Er (Γ 0 5) l = some (Γ 6 l) ∧ K (Γ 6 l) = 8 + 1 ∧ ρ (Γ 6 l) = 60000 + l ∧ I 38 (Γ 6 l) = nI a ∧ I 39 (Γ 6 l) = nI b ∧ R 40 (Γ 6 l) = some (Γ 7 (2 * l)) ∧ R 41 (Γ 6 l) = some (Γ 7 (2 * l + 1)) ∧ I 42 (Γ 6 l) = bI v
def RCi (Γ : Gm) (ρ K N : Nat → Nat) (I : Nat → Nat → Int32) (R : Nat → Nat → Option Nat) (s : Sa) : Prop := ∀ c, c < 16 → (sLn s (c / 2)).isSome = true → K (Γ 7 c) = 1 + 1 ∧ ρ (Γ 7 c) = 70000 + c ∧ R 7 (Γ 7 c) = some (Γ 8 c) ∧ R 8 (Γ 7 c) = some (Γ 10 c) ∧ R 9 (Γ 7 c) = some (Γ 12 c) ∧ K (Γ 8 c) = 20 + 4 ∧ N (Γ 8 c) = 5 ∧
  I 10 (Γ 7 c) = nI ((cSent (sCh s c)).length + 1) ∧ I 11 (Γ 7 c) = nI (cExp (sCh s c)) ∧ I 12 (Γ 7 c) = nI (cPut (sCh s c)) ∧ I 13 (Γ 7 c) = akI (cAsk (sCh s (otC c)))
/-- a frame: kind and serial, and what it bears -/
def fr1 (Γ : Gm) (K : Nat → Nat) (I : Nat → Nat → Int32) (R : Nat → Nat → Option Nat) (sent : List (Nat × Nat)) (a : Nat) (f : Nat × Nat) : Prop := I 32 a = nI f.2 ∧ (f.1 = 0 → ∃ q x, R 33 a = some q ∧ sent[f.2 - 1]? = some x ∧ K q = 2 + 1 ∧ R 14 q = some (Γ 14 x.1) ∧ I 15 q = nI x.2) ∧ (f.1 ≠ 0 → R 33 a = none ∧ I 34 a = bI (f.1 == 2))
def kpF (d : Ch) : List (Nat × Nat) := (List.range (cKept d)).map fun k => (0, (cSent d).length - cKept d + k + 1)
/-- a ring of frames and what the state says is in it -/
def RgF (Γ : Gm) (K N : Nat → Nat) (I : Nat → Nat → Int32) (R Er : Nat → Nat → Option Nat) (f r cap : Nat) (sent : List (Nat × Nat)) (fs : List (Nat × Nat)) : Prop := ∃ ps : List (Nat × Nat × Nat), FS K N I R Er f r cap (ps.map Prod.fst) ∧ ps.map Prod.snd = fs ∧ ∀ q ∈ ps, fr1 Γ K I R sent q.1 q.2
def RRi (Γ : Gm) (ρ K N : Nat → Nat) (I : Nat → Nat → Int32) (R Er : Nat → Nat → Option Nat) (s : Sa) : Prop := ∀ c, c < 16 → (sLn s (c / 2)).isSome = true → ρ (Γ 10 c) = 100000 + c ∧ ρ (Γ 11 c) = 110000 + c ∧ ρ (Γ 12 c) = 120000 + c ∧ ρ (Γ 13 c) = 130000 + c ∧
  RgF Γ K N I R Er (Γ 10 c) (Γ 11 c) 20 (cSent (sCh s c)) (kpF (sCh s c)) ∧ RgF Γ K N I R Er (Γ 12 c) (Γ 13 c) 200 (cSent (sCh s c)) (cWire (sCh s c))
def mg1 (Γ : Gm) (ρ K N : Nat → Nat) (I : Nat → Nat → Int32) (R : Nat → Nat → Option Nat) (E : Nat → Nat → Int32) (El : Nat → Nat → Int64) (s : Sa) (j : Nat) (m : Nat × List (List Nat) × Nat × Nat) : Prop := K (Γ 14 j) = 9 + 1 ∧ ρ (Γ 14 j) = 140000 + j ∧ R 43 (Γ 14 j) = some (Γ 15 j) ∧ R 44 (Γ 14 j) = some (Γ 16 j) ∧ I 45 (Γ 14 j) = nI m.1 ∧ I 46 (Γ 14 j) = nI (sCm s j) ∧ I 47 (Γ 14 j) = nI (dkB (sDk s) j) ∧
  K (Γ 15 j) = 20 + 2 ∧ N (Γ 15 j) = m.2.2.1 ∧ ρ (Γ 15 j) = 150000 + j ∧ K (Γ 16 j) = 20 + 1 ∧ N (Γ 16 j) = m.2.1.length ∧ ρ (Γ 16 j) = 160000 + j ∧ (∀ p, p < m.2.2.1 → E (Γ 15 j) p = b8 (textAt s m p)) ∧ ∀ k a, m.2.1[k]? = some a → El (Γ 16 j) k = lN (leN a)
def RMg (Γ : Gm) (ρ K N : Nat → Nat) (I : Nat → Nat → Int32) (R : Nat → Nat → Option Nat) (E : Nat → Nat → Int32) (El : Nat → Nat → Int64) (Er : Nat → Nat → Option Nat) (s : Sa) : Prop := ∀ i m, (sMs s)[i]? = some m → Er (Γ 0 6) i = some (Γ 14 (i + 1)) ∧ mg1 Γ ρ K N I R E El s (i + 1) m
def RepN (Γ : Gm) (ρ : Nat → Nat) (K N : Nat → Nat) (I : Nat → Nat → Int32) (R : Nat → Nat → Option Nat) (L : Nat → Nat → Int64) (E : Nat → Nat → Int32) (El : Nat → Nat → Int64) (Er : Nat → Nat → Option Nat) (s : Sa) : Prop := DF K I R L E El Er ∧ RNt Γ ρ K N I R s ∧ RDr Γ ρ K N R E s ∧ RSw Γ ρ K N I R Er s ∧ REn Γ K I L Er s ∧ RDkN Γ Er s ∧ RHl Γ ρ K I R s ∧ RLi Γ ρ K I R Er s ∧ RCi Γ ρ K N I R s ∧ RQu Γ ρ K I R Er s ∧ RRi Γ ρ K N I R Er s ∧ RMg Γ ρ K N I R E El Er s
variable {Γ : Gm} {ρ ρ' : Nat → Nat} {K N : Nat → Nat} {I : Nat → Nat → Int32} {R : Nat → Nat → Option Nat} {L : Nat → Nat → Int64} {E : Nat → Nat → Int32} {El : Nat → Nat → Int64} {Er : Nat → Nat → Option Nat} {K' N' : Nat → Nat} {I' : Nat → Nat → Int32} {R' : Nat → Nat → Option Nat} {L' : Nat → Nat → Int64} {E' : Nat → Nat → Int32} {El' : Nat → Nat → Int64} {Er' : Nat → Nat → Option Nat} {s : Sa} {SI SR XE XEl XEr : List Nat}
theorem RepN.df (h : RepN Γ ρ K N I R L E El Er s) : DF K I R L E El Er := h.1
theorem RepN.nt (h : RepN Γ ρ K N I R L E El Er s) : RNt Γ ρ K N I R s := h.2.1
theorem RepN.dr (h : RepN Γ ρ K N I R L E El Er s) : RDr Γ ρ K N R E s := h.2.2.1
theorem RepN.sw (h : RepN Γ ρ K N I R L E El Er s) : RSw Γ ρ K N I R Er s := h.2.2.2.1
theorem RepN.en (h : RepN Γ ρ K N I R L E El Er s) : REn Γ K I L Er s := h.2.2.2.2.1
theorem RepN.dk (h : RepN Γ ρ K N I R L E El Er s) : RDkN Γ Er s := h.2.2.2.2.2.1
theorem RepN.hl (h : RepN Γ ρ K N I R L E El Er s) : RHl Γ ρ K I R s := h.2.2.2.2.2.2.1
theorem RepN.li (h : RepN Γ ρ K N I R L E El Er s) : RLi Γ ρ K I R Er s := h.2.2.2.2.2.2.2.1
theorem RepN.ci (h : RepN Γ ρ K N I R L E El Er s) : RCi Γ ρ K N I R s := h.2.2.2.2.2.2.2.2.1
theorem RepN.qu (h : RepN Γ ρ K N I R L E El Er s) : RQu Γ ρ K I R Er s := h.2.2.2.2.2.2.2.2.2.1
theorem RepN.ri (h : RepN Γ ρ K N I R L E El Er s) : RRi Γ ρ K N I R Er s := h.2.2.2.2.2.2.2.2.2.2.1
theorem RepN.mg (h : RepN Γ ρ K N I R L E El Er s) : RMg Γ ρ K N I R E El Er s := h.2.2.2.2.2.2.2.2.2.2.2
/-- what was there stands as it stood, but for the fields SI, SR and the arrays XE, XEl, XEr -/
def Fr0 (ρ ρ' K N K' N' : Nat → Nat) (I I' : Nat → Nat → Int32) (R R' : Nat → Nat → Option Nat) (L L' : Nat → Nat → Int64) (E E' : Nat → Nat → Int32) (El El' : Nat → Nat → Int64) (Er Er' : Nat → Nat → Option Nat) (SI SR XE XEl XEr : List Nat) : Prop :=
  (∀ q, K q ≠ 0 → K' q = K q ∧ N' q = N q ∧ ρ' q = ρ q) ∧ (∀ g q, g ∉ SI → K q ≠ 0 → I' g q = I g q) ∧ (∀ g q, g ∉ SR → K q ≠ 0 → R' g q = R g q) ∧ (∀ g q, K q ≠ 0 → L' g q = L g q) ∧ (∀ q, q ∉ XE → K q ≠ 0 → E' q = E q) ∧ (∀ q, q ∉ XEl → K q ≠ 0 → El' q = El q) ∧ ∀ q, q ∉ XEr → K q ≠ 0 → Er' q = Er q

theorem Fr0.k (F : Fr0 ρ ρ' K N K' N' I I' R R' L L' E E' El El' Er Er' SI SR XE XEl XEr) {q c : Nat} (h : K q = c + 1) : K' q = c + 1 := ((F.1 q (by omega)).1).trans h
theorem Fr0.a (F : Fr0 ρ ρ' K N K' N' I I' R R' L L' E E' El El' Er Er' SI SR XE XEl XEr) {q c : Nat} (h : K q = 20 + c) : K' q = 20 + c := ((F.1 q (by omega)).1).trans h
theorem Fr0.n (F : Fr0 ρ ρ' K N K' N' I I' R R' L L' E E' El El' Er Er' SI SR XE XEl XEr) {q n : Nat} (hk : K q ≠ 0) (h : N q = n) : N' q = n := ((F.1 q hk).2.1).trans h
theorem Fr0.p (F : Fr0 ρ ρ' K N K' N' I I' R R' L L' E E' El El' Er Er' SI SR XE XEl XEr) {q n : Nat} (hk : K q ≠ 0) (h : ρ q = n) : ρ' q = n := ((F.1 q hk).2.2).trans h
theorem Fr0.i (F : Fr0 ρ ρ' K N K' N' I I' R R' L L' E E' El El' Er Er' SI SR XE XEl XEr) {g q : Nat} {x : Int32} (hg : g ∉ SI) (hk : K q ≠ 0) (h : I g q = x) : I' g q = x := (F.2.1 g q hg hk).trans h
theorem Fr0.r (F : Fr0 ρ ρ' K N K' N' I I' R R' L L' E E' El El' Er Er' SI SR XE XEl XEr) {g q : Nat} {x : Option Nat} (hg : g ∉ SR) (hk : K q ≠ 0) (h : R g q = x) : R' g q = x := (F.2.2.1 g q hg hk).trans h
theorem Fr0.l (F : Fr0 ρ ρ' K N K' N' I I' R R' L L' E E' El El' Er Er' SI SR XE XEl XEr) {g q : Nat} {x : Int64} (hk : K q ≠ 0) (h : L g q = x) : L' g q = x := (F.2.2.2.1 g q hk).trans h
theorem Fr0.e (F : Fr0 ρ ρ' K N K' N' I I' R R' L L' E E' El El' Er Er' SI SR XE XEl XEr) {q i : Nat} {x : Int32} (hg : q ∉ XE) (hk : K q ≠ 0) (h : E q i = x) : E' q i = x := by rw [F.2.2.2.2.1 q hg hk]; exact h
theorem Fr0.el (F : Fr0 ρ ρ' K N K' N' I I' R R' L L' E E' El El' Er Er' SI SR XE XEl XEr) {q i : Nat} {x : Int64} (hg : q ∉ XEl) (hk : K q ≠ 0) (h : El q i = x) : El' q i = x := by rw [F.2.2.2.2.2.1 q hg hk]; exact h
theorem Fr0.er (F : Fr0 ρ ρ' K N K' N' I I' R R' L L' E E' El El' Er Er' SI SR XE XEl XEr) {q i : Nat} {x : Option Nat} (hg : q ∉ XEr) (hk : K q ≠ 0) (h : Er q i = x) : Er' q i = x := by rw [F.2.2.2.2.2.2 q hg hk]; exact h
theorem RNt.fr (h : RNt Γ ρ K N I R s) (F : Fr0 ρ ρ' K N K' N' I I' R R' L L' E E' El El' Er Er' SI SR XE XEl XEr) (h1 : 5 ∉ SI ∧ 6 ∉ SI) (h2 : ∀ g, g < 5 → g ∉ SR) : RNt Γ ρ' K' N' I' R' s := by
  obtain ⟨a, b1, b2, b3, b4, b5, c1, c2, d1, d2, e1, e2, f1, f2, f3, g1, g2⟩ := h
  exact ⟨F.k a, F.r (h2 0 (by decide)) (by omega) b1, F.r (h2 1 (by decide)) (by omega) b2, F.r (h2 2 (by decide)) (by omega) b3, F.r (h2 3 (by decide)) (by omega) b4, F.r (h2 4 (by decide)) (by omega) b5, F.i h1.1 (by omega) c1, F.i h1.2 (by omega) c2, F.a d1, F.n (by omega) d2, F.a e1, F.n (by omega) e2, F.a f1, F.n (by omega) f2, F.p (by omega) f3, F.a g1, F.n (by omega) g2⟩
theorem RDr.fr (h : RDr Γ ρ K N R E s) (F : Fr0 ρ ρ' K N K' N' I I' R R' L L' E E' El El' Er Er' SI SR XE XEl XEr) (h1 : 21 ∉ SR ∧ 22 ∉ SR) (h2 : Γ 0 2 ∉ XE) : RDr Γ ρ' K' N' R' E' s := by
  obtain ⟨a1, a2, a3, b1, b2, c1, c2, d1, d2, e⟩ := h
  exact ⟨F.k a1, F.a a2, F.a a3, F.r h1.1 (by omega) b1, F.r h1.2 (by omega) b2, F.n (by omega) c1, F.n (by omega) c2, F.p (by omega) d1, F.p (by omega) d2, fun p hp => F.e h2 (by omega) (e p hp)⟩
theorem RSw.fr (h : RSw Γ ρ K N I R Er s) (F : Fr0 ρ ρ' K N K' N' I I' R R' L L' E E' El El' Er Er' SI SR XE XEl XEr) (h0 : K (Γ 0 4) ≠ 0) (h1 : ∀ g, 51 ≤ g → g ≤ 55 → g ∉ SI) (h2 : ∀ g, 48 ≤ g → g ≤ 50 → g ∉ SR) (h3 : Γ 0 4 ∉ XEr) : RSw Γ ρ' K' N' I' R' Er' s := by
  intro x hx
  obtain ⟨a, b1, b2, c1, c2, c3, d1, d2, d3, e1, e2, e3, f1, f2, f3, f4, f5⟩ := h x hx
  have k : K (Γ 1 x) ≠ 0 := by omega
  exact ⟨F.er h3 h0 a, F.k b1, F.p k b2, F.r (h2 48 (by decide) (by decide)) k c1, F.r (h2 49 (by decide) (by decide)) k c2, F.r (h2 50 (by decide) (by decide)) k c3, F.a d1, F.n (by omega) d2, F.p (by omega) d3, F.a e1, F.n (by omega) e2, F.p (by omega) e3, F.i (h1 51 (by decide) (by decide)) k f1, F.i (h1 52 (by decide) (by decide)) k f2, F.i (h1 53 (by decide) (by decide)) k f3, F.i (h1 54 (by decide) (by decide)) k f4, F.i (h1 55 (by decide) (by decide)) k f5⟩
theorem en1.fr {q : Nat} {e : List Nat × Option Nat × Option Nat} (h : en1 Γ K I L q e) (F : Fr0 ρ ρ' K N K' N' I I' R R' L L' E E' El El' Er Er' SI SR XE XEl XEr) (h1 : ∀ g, 29 ≤ g → g ≤ 31 → g ∉ SI) : en1 Γ K' I' L' q e := by
  obtain ⟨a, b, c, d, e⟩ := h
  exact ⟨F.k a, F.l (by omega) b, F.i (h1 29 (by decide) (by decide)) (by omega) c, F.i (h1 30 (by decide) (by decide)) (by omega) d, F.i (h1 31 (by decide) (by decide)) (by omega) e⟩
theorem REn.fr (h : REn Γ K I L Er s) (F : Fr0 ρ ρ' K N K' N' I I' R R' L L' E E' El El' Er Er' SI SR XE XEl XEr) (h0 : ∀ x, x < 6 → K (Γ 2 x) ≠ 0) (h1 : ∀ g, 29 ≤ g → g ≤ 31 → g ∉ SI) (h3 : ∀ x, x < 6 → Γ 2 x ∉ XEr) : REn Γ K' I' L' Er' s :=
  fun x hx k hk => ⟨fun he => F.er (h3 x hx) (h0 x hx) ((h x hx k hk).1 he), fun e he => ⟨F.er (h3 x hx) (h0 x hx) ((h x hx k hk).2 e he).1, ((h x hx k hk).2 e he).2.fr F h1⟩⟩
theorem RDkN.fr (h : RDkN Γ Er s) (F : Fr0 ρ ρ' K N K' N' I I' R R' L L' E E' El El' Er Er' SI SR XE XEl XEr) (h0 : ∀ x, x < 6 → K (Γ 3 x) ≠ 0) (h3 : ∀ x, x < 6 → Γ 3 x ∉ XEr) : RDkN Γ Er' s := fun x hx i m hm => F.er (h3 x hx) (h0 x hx) (h x hx i m hm)
theorem cp1.fr {a : Nat} {c : Cy} (h : cp1 Γ I R a c) (hk : K a = 2 + 1) (F : Fr0 ρ ρ' K N K' N' I I' R R' L L' E E' El El' Er Er' SI SR XE XEl XEr) (h1 : 15 ∉ SI ∧ 16 ∉ SI) (h2 : 14 ∉ SR) : cp1 Γ I' R' a c := ⟨F.r h2 (by omega) h.1, F.i h1.1 (by omega) h.2.1, F.i h1.2 (by omega) h.2.2⟩
theorem LsC.fr {t l : Nat} {cs : List Cy} (h : LsC Γ ρ K I R t l cs) (F : Fr0 ρ ρ' K N K' N' I I' R R' L L' E E' El El' Er Er' SI SR XE XEl XEr) (h1 : 15 ∉ SI ∧ 16 ∉ SI ∧ 20 ∉ SI) (h2 : 14 ∉ SR ∧ 17 ∉ SR ∧ 18 ∉ SR ∧ 19 ∉ SR) : LsC Γ ρ' K' I' R' t l cs := by
  obtain ⟨ps, hc, he, hp⟩ := h
  have hl : K l ≠ 0 := by have := hc.1; omega
  have hm := hc.2.2.2.2.2.1
  have hm1 : ∀ q ∈ ps, K q.1 = 2 + 1 := fun q hq => (hm q.1 (List.mem_map_of_mem hq)).1
  exact ⟨ps, hc.keep (fun q c h => F.k h) (F.i h1.2.2 hl rfl) (F.r h2.2.2.1 hl rfl) (F.r h2.2.2.2 hl rfl) (fun a ha => have k : K a ≠ 0 := (by have := (hm a ha).1; omega); ⟨F.r h2.2.1 k rfl, F.p k rfl⟩), he, fun q hq => (hp q hq).fr (hm1 q hq) F ⟨h1.1, h1.2.1⟩ h2.1⟩
theorem RHl.fr (h : RHl Γ ρ K I R s) (F : Fr0 ρ ρ' K N K' N' I I' R R' L L' E E' El El' Er Er' SI SR XE XEl XEr) (h1 : 15 ∉ SI ∧ 16 ∉ SI ∧ 20 ∉ SI) (h2 : 14 ∉ SR ∧ 17 ∉ SR ∧ 18 ∉ SR ∧ 19 ∉ SR) : RHl Γ ρ' K' I' R' s := fun x hx => ⟨F.p (by have := (h x hx).2; obtain ⟨ps, hc, -⟩ := this; have := hc.1; omega) (h x hx).1, (h x hx).2.fr F h1 h2⟩
theorem RQu.fr (h : RQu Γ ρ K I R Er s) (F : Fr0 ρ ρ' K N K' N' I I' R R' L L' E E' El El' Er Er' SI SR XE XEl XEr) (h0 : ∀ c, c < 16 → (sLn s (c / 2)).isSome = true → K (Γ 8 c) ≠ 0) (h1 : 15 ∉ SI ∧ 16 ∉ SI ∧ 20 ∉ SI) (h2 : 14 ∉ SR ∧ 17 ∉ SR ∧ 18 ∉ SR ∧ 19 ∉ SR) (h3 : ∀ c, c < 16 → (sLn s (c / 2)).isSome = true → Γ 8 c ∉ XEr) : RQu Γ ρ' K' I' R' Er' s :=
  fun c hc hs p hp => ⟨F.er (h3 c hc hs) (h0 c hc hs) (h c hc hs p hp).1, F.p (by have := (h c hc hs p hp).2.2; obtain ⟨ps, hc, -⟩ := this; have := hc.1; omega) (h c hc hs p hp).2.1, (h c hc hs p hp).2.2.fr F h1 h2⟩
theorem RLi.fr (h : RLi Γ ρ K I R Er s) (F : Fr0 ρ ρ' K N K' N' I I' R R' L L' E E' El El' Er Er' SI SR XE XEl XEr) (h0 : K (Γ 0 5) ≠ 0) (h1 : 38 ∉ SI ∧ 39 ∉ SI ∧ 42 ∉ SI) (h2 : 40 ∉ SR ∧ 41 ∉ SR) (h3 : Γ 0 5 ∉ XEr) : RLi Γ ρ' K' I' R' Er' s := by
  intro l hl
  refine ⟨fun hn => F.er h3 h0 ((h l hl).1 hn), fun a b v hv => ?_⟩
  obtain ⟨a1, a2, a3, a4, a5, a6, a7, a8⟩ := (h l hl).2 a b v hv
  have k : K (Γ 6 l) ≠ 0 := by omega
  exact ⟨F.er h3 h0 a1, F.k a2, F.p k a3, F.i h1.1 k a4, F.i h1.2.1 k a5, F.r h2.1 k a6, F.r h2.2 k a7, F.i h1.2.2 k a8⟩
theorem RCi.fr (h : RCi Γ ρ K N I R s) (F : Fr0 ρ ρ' K N K' N' I I' R R' L L' E E' El El' Er Er' SI SR XE XEl XEr) (h1 : ∀ g, 10 ≤ g → g ≤ 13 → g ∉ SI) (h2 : ∀ g, 7 ≤ g → g ≤ 9 → g ∉ SR) : RCi Γ ρ' K' N' I' R' s := by
  intro c hc hs
  obtain ⟨a1, a2, b1, b2, b3, c1, c2, d1, d2, d3, d4⟩ := h c hc hs
  have k : K (Γ 7 c) ≠ 0 := by omega
  exact ⟨F.k a1, F.p k a2, F.r (h2 7 (by decide) (by decide)) k b1, F.r (h2 8 (by decide) (by decide)) k b2, F.r (h2 9 (by decide) (by decide)) k b3, F.a c1, F.n (by omega) c2, F.i (h1 10 (by decide) (by decide)) k d1, F.i (h1 11 (by decide) (by decide)) k d2, F.i (h1 12 (by decide) (by decide)) k d3, F.i (h1 13 (by decide) (by decide)) k d4⟩
theorem fr1.fr {sent : List (Nat × Nat)} {a : Nat} {f : Nat × Nat} (h : fr1 Γ K I R sent a f) (hk : K a = 6 + 1) (F : Fr0 ρ ρ' K N K' N' I I' R R' L L' E E' El El' Er Er' SI SR XE XEl XEr) (h1 : 15 ∉ SI ∧ 32 ∉ SI ∧ 34 ∉ SI) (h2 : 14 ∉ SR ∧ 33 ∉ SR) : fr1 Γ K' I' R' sent a f := by
  have k : K a ≠ 0 := by omega
  refine ⟨F.i h1.2.1 k h.1, fun h0 => ?_, fun h0 => ⟨F.r h2.2 k (h.2.2 h0).1, F.i h1.2.2 k (h.2.2 h0).2⟩⟩
  obtain ⟨q, x, e1, e2, e3, e4, e5⟩ := h.2.1 h0
  exact ⟨q, x, F.r h2.2 k e1, e2, F.k e3, F.r h2.1 (by omega) e4, F.i h1.1 (by omega) e5⟩
theorem RgF.fr {f r cap : Nat} {sent fs : List (Nat × Nat)} (h : RgF Γ K N I R Er f r cap sent fs) (F : Fr0 ρ ρ' K N K' N' I I' R R' L L' E E' El El' Er Er' SI SR XE XEl XEr) (h1 : 15 ∉ SI ∧ 32 ∉ SI ∧ 34 ∉ SI ∧ 36 ∉ SI ∧ 37 ∉ SI) (h2 : 14 ∉ SR ∧ 33 ∉ SR ∧ 35 ∉ SR) (h3 : r ∉ XEr) : RgF Γ K' N' I' R' Er' f r cap sent fs := by
  obtain ⟨ps, hc, he, hp⟩ := h
  have kf : K f ≠ 0 := by have := hc.1; omega
  have kr : K r ≠ 0 := by have := hc.2.1; omega
  obtain ⟨-, -, -, -, -, st, -, -, -, -, hm⟩ := id hc
  have hm1 : ∀ q ∈ ps, K q.1 = 6 + 1 := fun q hq => by
    obtain ⟨i, hi, e⟩ := List.getElem_of_mem (List.mem_map_of_mem (f := Prod.fst) hq)
    exact (hm i q.1 (by rw [List.getElem?_eq_getElem hi, e])).2
  exact ⟨ps, hc.keep (fun q c h => F.k h) (F.n kr rfl) (F.i h1.2.2.2.1 kf rfl) (F.i h1.2.2.2.2 kf rfl) (F.r h2.2.2 kf rfl) (F.2.2.2.2.2.2 r h3 kr), he, fun q hq => (hp q hq).fr (hm1 q hq) F ⟨h1.1, h1.2.1, h1.2.2.1⟩ ⟨h2.1, h2.2.1⟩⟩
theorem RRi.fr (h : RRi Γ ρ K N I R Er s) (F : Fr0 ρ ρ' K N K' N' I I' R R' L L' E E' El El' Er Er' SI SR XE XEl XEr) (h1 : 15 ∉ SI ∧ 32 ∉ SI ∧ 34 ∉ SI ∧ 36 ∉ SI ∧ 37 ∉ SI) (h2 : 14 ∉ SR ∧ 33 ∉ SR ∧ 35 ∉ SR) (h3 : ∀ c, c < 16 → (sLn s (c / 2)).isSome = true → Γ 11 c ∉ XEr ∧ Γ 13 c ∉ XEr) : RRi Γ ρ' K' N' I' R' Er' s := by
  intro c hc hs
  obtain ⟨a1, a2, a3, a4, a5, a6⟩ := h c hc hs
  obtain ⟨p5, f5, -⟩ := id a5
  obtain ⟨p6, f6, -⟩ := id a6
  exact ⟨F.p (by have := f5.1; omega) a1, F.p (by have := f5.2.1; omega) a2, F.p (by have := f6.1; omega) a3, F.p (by have := f6.2.1; omega) a4, a5.fr F h1 h2 (h3 c hc hs).1, a6.fr F h1 h2 (h3 c hc hs).2⟩
theorem mg1.fr {j : Nat} {m : Nat × List (List Nat) × Nat × Nat} (h : mg1 Γ ρ K N I R E El s j m) (F : Fr0 ρ ρ' K N K' N' I I' R R' L L' E E' El El' Er Er' SI SR XE XEl XEr) (h1 : 45 ∉ SI ∧ 46 ∉ SI ∧ 47 ∉ SI) (h2 : 43 ∉ SR ∧ 44 ∉ SR) (h3 : Γ 15 j ∉ XE) (h4 : Γ 16 j ∉ XEl) : mg1 Γ ρ' K' N' I' R' E' El' s j m := by
  obtain ⟨a1, a2, b1, b2, c1, c2, c3, d1, d2, d3, e1, e2, e3, f1, f2⟩ := h
  have k : K (Γ 14 j) ≠ 0 := by omega
  exact ⟨F.k a1, F.p k a2, F.r h2.1 k b1, F.r h2.2 k b2, F.i h1.1 k c1, F.i h1.2.1 k c2, F.i h1.2.2 k c3, F.a d1, F.n (by omega) d2, F.p (by omega) d3, F.a e1, F.n (by omega) e2, F.p (by omega) e3, fun p hp => F.e h3 (by omega) (f1 p hp), fun p x hx => F.el h4 (by omega) (f2 p x hx)⟩
theorem RMg.fr (h : RMg Γ ρ K N I R E El Er s) (F : Fr0 ρ ρ' K N K' N' I I' R R' L L' E E' El El' Er Er' SI SR XE XEl XEr) (h0 : K (Γ 0 6) ≠ 0) (h1 : 45 ∉ SI ∧ 46 ∉ SI ∧ 47 ∉ SI) (h2 : 43 ∉ SR ∧ 44 ∉ SR) (h3 : ∀ i, i < (sMs s).length → Γ 15 (i + 1) ∉ XE ∧ Γ 16 (i + 1) ∉ XEl) (h5 : Γ 0 6 ∉ XEr) : RMg Γ ρ' K' N' I' R' E' El' Er' s :=
  fun i m hm => ⟨F.er h5 h0 (h i m hm).1, (h i m hm).2.fr F h1 h2 (h3 i (List.getElem?_eq_some_iff.mp hm).1).1 (h3 i (List.getElem?_eq_some_iff.mp hm).1).2⟩
/-- all of it, where nothing of the state's is touched -/
theorem RepN.grow (h : RepN Γ ρ K N I R L E El Er s) (F : Fr0 ρ ρ' K N K' N' I I' R R' L L' E E' El El' Er Er' [] [] [] [] []) (hD : DF K' I' R' L' E' El' Er') : RepN Γ ρ' K' N' I' R' L' E' El' Er' s := by
  have n := h.nt
  refine ⟨hD, n.fr F (by decide) (fun _ _ => List.not_mem_nil), h.dr.fr F (by decide) List.not_mem_nil, h.sw.fr F (by have := n.2.2.2.2.2.2.2.2.1; omega) (fun _ _ _ => List.not_mem_nil) (fun _ _ _ => List.not_mem_nil) List.not_mem_nil, h.en.fr F (fun x hx => by have := (h.sw x hx).2.2.2.2.2.2.1; omega) (fun _ _ _ => List.not_mem_nil) (fun _ _ => List.not_mem_nil), h.dk.fr F (fun x hx => by have := (h.sw x hx).2.2.2.2.2.2.2.2.2.1; omega) (fun _ _ => List.not_mem_nil), h.hl.fr F (by decide) (by decide), h.li.fr F (by have := n.2.2.2.2.2.2.2.2.2.2.1; omega) (by decide) (by decide) List.not_mem_nil, h.ci.fr F (fun _ _ _ => List.not_mem_nil) (fun _ _ _ => List.not_mem_nil), h.qu.fr F (fun c hc hs => by have := (h.ci c hc hs).2.2.2.2.2.1; omega) (by decide) (by decide) (fun _ _ _ => List.not_mem_nil), h.ri.fr F (by decide) (by decide) (fun _ _ _ => ⟨List.not_mem_nil, List.not_mem_nil⟩), h.mg.fr F (by have := n.2.2.2.2.2.2.2.2.2.2.2.2.1; omega) (by decide) (by decide) (fun _ _ => ⟨List.not_mem_nil, List.not_mem_nil⟩) List.not_mem_nil⟩
end RepN
