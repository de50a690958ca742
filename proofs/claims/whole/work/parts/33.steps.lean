/-! THE CALLS: code (0: an answer, 1 and 2: the two throws), answer, state behind -/
section Steps
abbrev Ans : Type := Nat × Int32 × Sa
def nN (x : Int32) : Nat := x.toNatClampNeg
def lnB (s : Sa) : Nat → Bool := fun l => (sLn s l).isSome
def swB (x : Int32) : Bool := inZ x (nI 0) (nI 5)
def chOK (s : Sa) (l c : Int32) : Bool := hasB (lnB s) l && inZ c (nI 0) (nI 1)
def atB (s : Sa) (l : Int32) (x : Nat) : Bool := inZ l (nI 0) (nI 7) && atSw s (nN l) x
def stLine (s : Sa) (l a b : Int32) : Ans := if inZ l (nI 0) (nI 7) && !(lnB s (nN l)) && swB a && swB b && !(decide (a = b)) && !(degree s (nN a) == 4) && !(degree s (nN b) == 4) then (0, 0, wLn s (va_up (sLn s) (nN l) (some (nN a, nN b, true)))) else (1, 0, s)
def pbyte (one two : Int32) (k : Nat) : Nat := (if k < 4 then one.toBitVec.toNat / 2 ^ (8 * k) else two.toBitVec.toNat / 2 ^ (8 * (k - 4))) % 256
def pfx (one two : Int32) (len : Nat) : List Nat := (List.range len).map (pbyte one two)
def pfxOK (one two : Int32) (len : Nat) : Bool := (List.range 8).all fun k => if k < len then decide (65 ≤ pbyte one two k ∧ pbyte one two k ≤ 90) else pbyte one two k == 0
def i2o (x : Int32) : Option Nat := if x = -1 then none else some (nN x)
def lnOrNone (s : Sa) (l : Int32) (x : Nat) : Bool := decide (l = -1) || atB s l x
def rtOK (s : Sa) (x one two len mn ot : Int32) : Bool := swB x && inZ len (nI 1) (nI 8) && pfxOK one two (nN len) && (lnOrNone s mn (nN x) && lnOrNone s ot (nN x) && !(decide (mn = ot ∧ mn ≠ -1))) && !((sRt s (nN x)).any fun e => e.1 == pfx one two (nN len))
def stRoute (s : Sa) (x one two len mn ot : Int32) : Ans := if rtOK s x one two len mn ot then (if (sRt s (nN x)).length = 16 then (2, 0, s) else (0, 0, wRt s (va_up (sRt s) (nN x) (sRt s (nN x) ++ [(pfx one two (nN len), i2o mn, i2o ot)])))) else (1, 0, s)
def stPut (s : Sa) (i v : Int32) : Ans := if inZ i (nI 0) (nI 1599) then (0, 0, wLog s ((nN i, v) :: sLog s)) else (1, 0, s)
def stFile (s : Sa) (x n : Int32) : Ans := if swB x && inZ n (nI 0) (nI 1600) then (if (sMs s).length = 200 then (2, 0, s) else match judge (gv (txtR (sLog s)) (nN n)) with
  | .inr f => (0, -1 - nI (10 * f.1) - nI f.2, s)
  | .inl q => (0, nI ((sMs s).length + 1), comesS (wMs s (sMs s ++ [(q.1, q.2, nN n, (sLog s).length)])) (nN x) ((sMs s).length + 1) (2 ^ q.2.length - 1) 0)) else (1, 0, s)
def sendS (s : Sa) (j b : Nat) : Sa := let c := (sCp s).getD b (0, 0, 0, 0)
  let d := sCh s j
  wCp (wCh s (va_up (sCh s) j (layKeptC (cSent d ++ [(c.2.1, c.2.2.1)], cKept d + 1, cExp d, cWire d, cPut d, cAsk d) (cKept d) (sMin s)))) ((sCp s).eraseIdx b)
def stSend (s : Sa) (l c : Int32) : Ans := if chOK s l c then (match bestOf s (2 * nN l + nN c) with
  | none => (0, 0, s)
  | some b => if cKept (sCh s (2 * nN l + nN c)) = 20 ∨ serves s (nN l) = false then (0, 0, s) else (0, nI ((cSent (sCh s (2 * nN l + nN c))).length + 1), sendS s (2 * nN l + nN c) b)) else (1, 0, s)
def wWire (d : Ch) (w : List (Nat × Nat)) : Ch := (cSent d, cKept d, cExp d, w, cPut d, cAsk d)
def wKept (d : Ch) (k : Nat) : Ch := (cSent d, k, cExp d, cWire d, cPut d, cAsk d)
def wExp (d : Ch) (k : Nat) : Ch := (cSent d, cKept d, k, cWire d, cPut d, cAsk d)
def wAsk (d : Ch) (k : Option Nat) : Ch := (cSent d, cKept d, cExp d, cWire d, cPut d, k)
def ch1 (s : Sa) (j : Nat) (d : Ch) : Sa := wCh s (va_up (sCh s) j d)
def endOf (s : Sa) (l : Nat) (first : Bool) : Nat := match sLn s l with
  | none => 0
  | some (a, b, _) => if first then a else b
/-- a message frame is at the other end of channel j; k is the way back -/
def meetS (s : Sa) (l j k serial : Nat) : Nat × Sa :=
  let d := sCh s j
  let ahead := (serial + 999 - cExp d) % 999
  if ahead = 0 then (let s1 := ch1 s j (wExp d (cExp d % 999 + 1))
    let s2 := ch1 s1 k (layC (sCh s1 k) (1, serial))
    (1, comesS s2 (endOf s2 l (j % 2 == 1)) ((cSent d).getD (serial - 1) (0, 0)).1 ((cSent d).getD (serial - 1) (0, 0)).2 (l + 1)))
  else if ahead ≤ 400 then (match cAsk d with
    | some t => if sMin s < t + 3 then (2, s) else (let s1 := ch1 s j (wAsk d (some (sMin s))); (2, ch1 s1 k (layC (sCh s1 k) (2, cExp d))))
    | none => (let s1 := ch1 s j (wAsk d (some (sMin s))); (2, ch1 s1 k (layC (sCh s1 k) (2, cExp d)))))
  else (3, ch1 s k (layC (sCh s k) (1, (cExp d + 997) % 999 + 1)))
def freeC (d : Ch) (serial : Nat) : Ch := if (cSent d).length - cKept d < serial ∧ serial ≤ (cSent d).length then wKept d ((cSent d).length - serial) else d
def layAll (minute : Nat) : Nat → Nat → Ch → Ch
  | 0, _, d => d
  | n + 1, k, d => layAll minute n (k + 1) (layKeptC d k minute)
def againC (d : Ch) (serial minute : Nat) : Ch := if (cSent d).length - cKept d < serial ∧ serial ≤ (cSent d).length then layAll minute ((cSent d).length + 1 - serial) (serial - ((cSent d).length - cKept d) - 1) d else d
def carryS (s : Sa) (l j k : Nat) (f : Nat × Nat) (w : List (Nat × Nat)) : Nat × Sa :=
  let s1 := ch1 s j (wWire (sCh s j) w)
  if f.1 = 0 then meetS s1 l j k f.2 else if f.1 = 1 then (4, ch1 s1 k (freeC (sCh s1 k) f.2)) else (5, ch1 s1 k (againC (sCh s1 k) f.2 (sMin s)))
def stCarry (s : Sa) (l c : Int32) : Ans := if chOK s l c then (match cWire (sCh s (2 * nN l + nN c)) with
  | [] => (0, 0, s)
  | f :: w => let r := carryS s (nN l) (2 * nN l + nN c) (2 * nN l + 1 - nN c) f w
    (0, nI r.1, r.2)) else (1, 0, s)
def stDisturb (s : Sa) (l c how : Int32) : Ans := if chOK s l c && inZ how (nI 0) (nI 1) then (match cWire (sCh s (2 * nN l + nN c)) with
  | [] => (0, 0, s)
  | f :: w => if how = 0 then (0, 1, ch1 s (2 * nN l + nN c) (wWire (sCh s (2 * nN l + nN c)) w)) else
    if w.length = 199 then (0, 0, s) else (0, 1, ch1 s (2 * nN l + nN c) (wWire (sCh s (2 * nN l + nN c)) (f :: f :: w)))) else (1, 0, s)
def serveS (s : Sa) (l : Nat) (v : Bool) (a b : Nat) : Sa :=
  let s1 := ch1 (ch1 (wLn s (va_up (sLn s) l (some (a, b, v)))) (2 * l) (wWire (sCh s (2 * l)) [])) (2 * l + 1) (wWire (sCh s (2 * l + 1)) [])
  if v then releaseS (releaseS s1 a) b else s1
def stServe (s : Sa) (l : Int32) (v : Bool) : Ans := if hasB (lnB s) l then (match sLn s (nN l) with
  | none => (1, 0, s)
  | some (a, b, w) => if w = v then (0, 0, s) else (0, 1, serveS s (nN l) v a b)) else (1, 0, s)
/-- a channel whose oldest kept frame is put again -/
def dueC (s : Sa) (c : Nat) : Bool := serves s (c / 2) && !(cKept (sCh s c) == 0) && decide (cPut (sCh s c) + 5 ≤ sMin s)
def timeCh (s : Sa) (n : Nat) : Nat → Ch := fun c => if c < n ∧ dueC s c = true then layKeptC (sCh s c) 0 (sMin s) else sCh s c
def timeMany (s : Sa) (n : Nat) : Nat := ((List.range n).filter (dueC s)).length
def stTime (s : Sa) (t : Int32) : Ans := if inZ t (nI 0) (nI 1000) then (let s1 := wMin s (sMin s + nN t); (0, nI (timeMany s1 16), wCh s1 (timeCh s1 16))) else (1, 0, s)
def stDelivered (s : Sa) (x : Int32) : Ans := if swB x then (0, nI (sDk s (nN x)).length, s) else (1, 0, s)
def textAt (s : Sa) (m : Nat × List (List Nat) × Nat × Nat) (i : Nat) : Nat := txtR ((sLog s).drop ((sLog s).length - m.2.2.2)) i
def stRead (s : Sa) (x k i : Int32) : Ans := if swB x then (if k < 0 then (0, -1, s) else match (sDk s (nN x))[nN k]? with
  | none => (0, -1, s)
  | some m => if i < 0 ∨ ((sMs s).getD (m - 1) (0, [], 0, 0)).2.2.1 ≤ nN i then (0, -1, s) else (0, nI (textAt s ((sMs s).getD (m - 1) (0, [], 0, 0)) (nN i)), s)) else (1, 0, s)
def stArrived (s : Sa) (m k : Int32) : Ans := if (0 : Int32) < m ∧ nN m ≤ (sMs s).length ∧ ¬ k < 0 ∧ nN k < cntOf s (nN m) then (0, bI ((sCm s (nN m)).testBit (nN k)), s) else (1, 0, s)
def stChannel (s : Sa) (l c w : Int32) : Ans := if chOK s l c then (let j := 2 * nN l + nN c
  if inZ w (nI 0) (nI 4) then (0, nI ((sCp s).countP fun q => q.1 == j && prioOf s q.2.1 == nN w), s) else
  if w = nI 5 then (0, nI (cKept (sCh s j)), s) else if w = nI 6 then (0, nI (cWire (sCh s j)).length, s) else if w = nI 7 then (0, nI ((cSent (sCh s j)).length + 1), s) else if w = nI 8 then (0, nI (cExp (sCh s j)), s) else (1, 0, s)) else (1, 0, s)
def stCount (s : Sa) (x w : Int32) : Ans := if x = -1 then (if w = nI 3 then (0, nI (sMin s), s) else if w = nI 4 then (0, nI (sMs s).length, s) else (1, 0, s)) else
  if swB x then (if w = nI 0 then (0, nI (sUn s (nN x)), s) else if w = nI 1 then (0, nI (sDb s (nN x)), s) else if w = nI 2 then (0, nI ((sCp s).countP fun c => c.1 == 16 + nN x), s) else (1, 0, s)) else (1, 0, s)
/-- the reference's world behind a call -/
def RefOK (o : Nat) (A : Nat → Nat) (a : Ans) (h' : AHp) : Prop := ∃ Fi' M' Ml', h' = hM o A Fi' M' Ml' ∧ RepM a.2.2 Fi' M' Ml' ∧ Fi' 0 = nI a.1
end Steps
