/-! HOW THE REFERENCE'S ARRAYS HOLD THE STATE, AND WHAT HOLDS OF EVERY STATE -/
section Rep
def o2i : Option Nat → Int32
  | none => -1
  | some j => nI j
def RLn (s : Sa) (f6 f7 f8 f9 : Nat → Int32) : Prop := ∀ l, l < 8 → f6 l = bI (sLn s l).isSome ∧ f9 l = bI (serves s l) ∧ ∀ a b v, sLn s l = some (a, b, v) → f7 l = nI a ∧ f8 l = nI b
def RRt (R : Nat → List (List Nat × Option Nat × Option Nat)) (f10 : Nat → Int32) (g11 : Nat → Int64) (f12 f13 f14 : Nat → Int32) : Prop := ∀ x, x < 6 → f10 x = nI (R x).length ∧ ∀ k e, (R x)[k]? = some e → g11 (16 * x + k) = lN (beN e.1 * 256 ^ (8 - e.1.length)) ∧ f12 (16 * x + k) = nI e.1.length ∧ f13 (16 * x + k) = o2i e.2.1 ∧ f14 (16 * x + k) = o2i e.2.2
def RMs (ms : List (Nat × List (List Nat) × Nat × Nat)) (f16 f17 f18 f19 : Nat → Int32) (g20 : Nat → Int64) : Prop := ∀ i m, ms[i]? = some m → f16 (i + 1) = nI m.2.2.2 ∧ f17 (i + 1) = nI m.2.2.1 ∧ f18 (i + 1) = nI m.1 ∧ f19 (i + 1) = nI m.2.1.length ∧ ∀ k a, m.2.1[k]? = some a → g20 (7 * (i + 1) + k) = lN (beN a)
def RCm (n : Nat) (cm : Nat → Nat) (f21 : Nat → Int32) : Prop := ∀ m, 1 ≤ m → m ≤ n → f21 m = nI (cm m)
def RCp (cs : List (Nat × Nat × Nat × Nat)) (f23 : Nat → Int32) : Prop := ∀ i c, cs[i]? = some c → f23 i = nI (encC c)
def encF (sent : List (Nat × Nat)) (f : Nat × Nat) : Nat := if f.1 = 0 then encK 0 f.2 (sent.getD (f.2 - 1) (0, 0)).1 (sent.getD (f.2 - 1) (0, 0)).2 else encK f.1 f.2 0 0
def askR (o : Option Nat) (x31 x32 : Int32) : Prop := match o with
  | none => x32 = bI false
  | some t => x32 = bI true ∧ x31 = nI t
/-- one channel in the arrays -/
def RC1 (b : Bool) (d : Ch) (c : Nat) (f24 f25 f26 f27 f28 f29 f30 f31 f32 : Nat → Int32) : Prop :=
  (b = true → f24 c = nI ((cSent d).length + 1) ∧ f25 c = nI (cExp d)) ∧ f26 c = nI (cKept d) ∧ (∀ k x, k < cKept d → (cSent d)[(cSent d).length - cKept d + k]? = some x → f27 (20 * c + k) = nI (x.1 * 2 ^ 8 + x.2)) ∧
  f28 c = nI (cWire d).length ∧ (∀ k f, (cWire d)[k]? = some f → f29 (200 * c + k) = nI (encF (cSent d) f)) ∧ f30 c = nI (cPut d) ∧ askR (cAsk d) (f31 c) (f32 c)
def RCh (s : Sa) (f24 f25 f26 f27 f28 f29 f30 f31 f32 : Nat → Int32) : Prop := ∀ c, c < 16 → RC1 (sLn s (c / 2)).isSome (sCh s c) c f24 f25 f26 f27 f28 f29 f30 f31 f32
def RDk (dk : Nat → List Nat) (f35 f36 : Nat → Int32) : Prop := ∀ x, x < 6 → f35 x = nI (dk x).length ∧ ∀ i m, (dk x)[i]? = some m → f36 (200 * x + i) = nI m
def RLg (lg : List (Nat × Int32)) (f3 f4 f5 : Nat → Int32) : Prop := (∀ i p, lg.reverse[i]? = some p → f3 i = nI p.1 ∧ f4 i = p.2) ∧ ∀ p, p < 1600 → f5 p = nI (txtR lg p)
def RCn (u : Nat → Nat) (f : Nat → Int32) : Prop := ∀ x, x < 6 → f x = nI (u x)
/-- the int fields that say of the state; the others are the calls' own -/
def RFi (s : Sa) (Fi : Nat → Int32) : Prop := Fi 1 = nI (sMin s) ∧ Fi 2 = nI (sLog s).length ∧ Fi 15 = nI (sMs s).length ∧ Fi 22 = nI (sCp s).length
def RepM (s : Sa) (Fi : Nat → Int32) (M : Nat → Nat → Int32) (Ml : Nat → Nat → Int64) : Prop :=
  RFi s Fi ∧ RLg (sLog s) (M 3) (M 4) (M 5) ∧ RLn s (M 6) (M 7) (M 8) (M 9) ∧ RRt (sRt s) (M 10) (Ml 11) (M 12) (M 13) (M 14) ∧ RMs (sMs s) (M 16) (M 17) (M 18) (M 19) (Ml 20) ∧ RCm (sMs s).length (sCm s) (M 21) ∧
  RCp (sCp s) (M 23) ∧ RCh s (M 24) (M 25) (M 26) (M 27) (M 28) (M 29) (M 30) (M 31) (M 32) ∧ RCn (sUn s) (M 33) ∧ RCn (sDb s) (M 34) ∧ RDk (sDk s) (M 35) (M 36)
/-- how many of the first 7 bits are set -/
def pc7 (x : Nat) : Nat := ((List.range 7).filter fun k => x.testBit k).length
def cntOf (s : Sa) (m : Nat) : Nat := ((sMs s).getD (m - 1) (0, [], 0, 0)).2.1.length
/-- a message that is there, and a set of its addresses -/
def okP (s : Sa) (m set : Nat) : Prop := 1 ≤ m ∧ m ≤ (sMs s).length ∧ set < 2 ^ cntOf s m
def okCp (s : Sa) (c : Nat × Nat × Nat × Nat) : Prop := c.1 < 22 ∧ (c.1 < 16 → (sLn s (c.1 / 2)).isSome = true) ∧ okP s c.2.1 c.2.2.1 ∧ 0 < c.2.2.1 ∧ c.2.2.2 ≤ 8
def okCh (s : Sa) (n c : Nat) (d : Ch) : Prop := cKept d ≤ 20 ∧ cKept d ≤ (cSent d).length ∧ (cSent d).length ≤ n ∧ (∀ x ∈ cSent d, okP s x.1 x.2 ∧ 0 < x.2) ∧ 1 ≤ cExp d ∧ cExp d ≤ (cSent d).length + 1 ∧ (cWire d).length ≤ 200 ∧
  (∀ f ∈ cWire d, f.1 < 3 ∧ 1 ≤ f.2 ∧ f.2 ≤ 999 ∧ (f.1 = 0 → f.2 ≤ (cSent d).length)) ∧ cPut d ≤ sMin s ∧ (∀ t, cAsk d = some t → t ≤ sMin s) ∧ (serves s (c / 2) = false → cWire d = []) ∧ (sLn s (c / 2) = none → d = ch0)
def okRt (s : Sa) (x : Nat) (e : List Nat × Option Nat × Option Nat) : Prop := 1 ≤ e.1.length ∧ e.1.length ≤ 8 ∧ (∀ b ∈ e.1, 65 ≤ b ∧ b ≤ 90) ∧ (∀ j, e.2.1 = some j → j < 8 ∧ atSw s j x = true) ∧ (∀ j, e.2.2 = some j → j < 8 ∧ atSw s j x = true)
def okMs (n : Nat) (m : Nat × List (List Nat) × Nat × Nat) : Prop := m.1 < 5 ∧ 1 ≤ m.2.1.length ∧ m.2.1.length ≤ 7 ∧ (∀ a ∈ m.2.1, ad8 a) ∧ m.2.2.1 ≤ 1600 ∧ m.2.2.2 ≤ n
/-- what is under way of all addresses of all messages -/
def phiCp (cs : List (Nat × Nat × Nat × Nat)) : Nat := (cs.map fun c => pc7 c.2.2.1).sum
def phi1 (d : Ch) : Nat := (((cSent d).drop (cExp d - 1)).map fun x => pc7 x.2).sum
def sumN (n : Nat) (f : Nat → Nat) : Nat := ((List.range n).map f).sum
def phi (s : Sa) : Nat := phiCp (sCp s) + sumN 16 (fun c => phi1 (sCh s c)) + sumN 6 (sUn s) + sumN 6 (sDb s) + sumN 201 (fun m => pc7 (sCm s m))
/-- what no call changes but its own -/
def Inv1 (n : Nat) (s : Sa) : Prop := sMin s ≤ 1000 * n ∧ (sLog s).length ≤ n ∧ (∀ p ∈ sLog s, p.1 < 1600) ∧ (∀ l a b v, sLn s l = some (a, b, v) → l < 8 ∧ a < 6 ∧ b < 6 ∧ a ≠ b) ∧ (∀ x, degree s x ≤ 4) ∧
  (∀ x, (sRt s x).length ≤ 16 ∧ ∀ e ∈ sRt s x, okRt s x e) ∧ (sMs s).length ≤ 200 ∧ (∀ m ∈ sMs s, okMs (sLog s).length m)
def Inv2 (n : Nat) (s : Sa) : Prop := (∀ m, sCm s m < 2 ^ cntOf s m) ∧ (∀ m, (sMs s).length < m → sCm s m = 0) ∧ (∀ c ∈ sCp s, okCp s c) ∧ (∀ c, okCh s n c (sCh s c)) ∧ (∀ x, (sDk s x).Nodup ∧ ∀ m ∈ sDk s x, 1 ≤ m ∧ m ≤ (sMs s).length)
def Inv (n : Nat) (s : Sa) : Prop := n ≤ 512 ∧ Inv1 n s ∧ Inv2 n s ∧ phi s ≤ 7 * (sMs s).length
end Rep
