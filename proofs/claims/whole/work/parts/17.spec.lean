/-! WHAT THE CALLS DO, AS MATHEMATICS: both the program and the reference are held against this. -/
section Spec
/-- byte i of the text, of the puts (the newest first) -/
def txtR : List (Nat × Int32) → Nat → Nat
  | [], _ => 0
  | (a, v) :: r, i => if a ≤ i ∧ i < a + 4 then v.toBitVec.toNat / 2 ^ (8 * (i - a)) % 256 else txtR r i
abbrev PR (α : Type) : Type := α ⊕ (Nat × Nat)
def isLet (x : Int) : Bool := decide (65 ≤ x ∧ x ≤ 90)
def isDig (x : Int) : Bool := decide (48 ≤ x ∧ x ≤ 57)
def isSgn (x : Int) : Bool := isLet x || isDig x || x == 32 || x == 45 || x == 63 || x == 58 || x == 40 || x == 41 || x == 46 || x == 44 || x == 39 || x == 47 || x == 43 || x == 61
def rankOf (x : Int) : Option Nat := if x = 83 then some 0 else if x = 68 then some 1 else if x = 70 then some 2 else if x = 71 then some 3 else if x = 75 then some 4 else none
def pByte (g : Nat → Int) (c : Int) (r a : Nat) : PR Nat := if g a = c then .inl (a + 1) else .inr (a, r)
def pLet (g : Nat → Int) (r : Nat) : Nat → Nat → PR Nat
  | 0, a => .inl a
  | k + 1, a => if isLet (g a) then pLet g r k (a + 1) else .inr (a, r)
def pNum (g : Nat → Int) (lo hi : Int) (a : Nat) : PR Nat :=
  if isDig (g a) = false then .inr (a, 5) else if isDig (g (a + 1)) = false then .inr (a + 1, 5) else
  if lo ≤ 10 * (g a - 48) + g (a + 1) - 48 ∧ 10 * (g a - 48) + g (a + 1) - 48 ≤ hi then .inl (a + 2) else .inr (a, 5)
def pHead (g : Nat → Int) : PR (Nat × Nat) := match rankOf (g 0) with
  | none => .inr (0, 1)
  | some p => if g 1 = -1 then .inr (1, 1) else if g 1 ≠ g 0 then .inr (0, 1) else match pByte g 10 1 2 with
    | .inl a => .inl (p, a)
    | .inr f => .inr f
def eight (g : Nat → Int) (a : Nat) : List Nat := (List.range 8).map fun k => (g (a + k)).toNat
def pAddrs (g : Nat → Int) : Nat → Nat → List (List Nat) → PR (Nat × List (List Nat))
  | 0, a, _ => .inr (a, 4)
  | f + 1, a, as => match pLet g 2 8 a with
    | .inr x => .inr x
    | .inl b => if eight g a ∈ as then .inr (a, 3) else if g b = 32 then (match f with
        | 0 => .inr (b, 4)
        | f' + 1 => pAddrs g (f' + 1) (b + 1) (as ++ [eight g a])) else if g b = 10 then .inl (b + 1, as ++ [eight g a]) else .inr (b, 2)
def pSigns (g : Nat → Int) : Nat → Nat → Nat
  | 0, a => a
  | f + 1, a => if isSgn (g a) then pSigns g f (a + 1) else a
def isNNNN (g : Nat → Int) (a : Nat) : Bool := g a == 78 && g (a + 1) == 78 && g (a + 2) == 78 && g (a + 3) == 78
def pBody (g : Nat → Int) : Nat → Nat → PR Unit
  | f, a => if isNNNN g a = true ∧ g (a + 4) = -1 then .inl () else if isNNNN g a = true ∧ g (a + 4) = 10 then .inr (a + 4, 8) else match f with
    | 0 => .inr (a, 7)
    | f' + 1 => if g (pSigns g 69 a) ≠ 10 ∨ pSigns g 69 a = a then .inr (pSigns g 69 a, 6) else pBody g f' (pSigns g 69 a + 1)
/-- the priority and the addresses of a good text; or the fault: place and rule -/
def judge (g : Nat → Int) : PR (Nat × List (List Nat)) := match pHead g with
  | .inr x => .inr x
  | .inl (p, a) => match pAddrs g 7 a [] with
    | .inr x => .inr x
    | .inl (b, as) => match pNum g 1 31 b with
      | .inr x => .inr x
      | .inl b1 => match pNum g 0 23 b1 with
        | .inr x => .inr x
        | .inl b2 => match pNum g 0 59 b2 with
          | .inr x => .inr x
          | .inl b3 => match pByte g 32 5 b3 with
            | .inr x => .inr x
            | .inl b4 => match pLet g 5 8 b4 with
              | .inr x => .inr x
              | .inl b5 => match pByte g 10 5 b5 with
                | .inr x => .inr x
                | .inl b6 => match pBody g 20 b6 with
                  | .inr x => .inr x
                  | .inl _ => .inl (p, as)
/-- a channel: what was sent (message, set of addresses; the first has serial 1); how many of the last are kept; the serial that is expected; the wire: frames (kind, serial), 0 a message, 1 an acknowledgement, 2 a request; the minute of the last message frame; of the last request for its frames -/
abbrev Ch : Type := List (Nat × Nat) × Nat × Nat × List (Nat × Nat) × Nat × Option Nat
abbrev cSent (c : Ch) : List (Nat × Nat) := c.1
abbrev cKept (c : Ch) : Nat := c.2.1
abbrev cExp (c : Ch) : Nat := c.2.2.1
abbrev cWire (c : Ch) : List (Nat × Nat) := c.2.2.2.1
abbrev cPut (c : Ch) : Nat := c.2.2.2.2.1
abbrev cAsk (c : Ch) : Option Nat := c.2.2.2.2.2
def ch0 : Ch := ([], 0, 1, [], 0, none)
/-- minute, puts, lines (a, b, in service), routes (letters, main, alternate), messages (priority, addresses, length, puts then), delivered for, copies (where, message, set, line it came by + 1), channels, unknown, double, desks -/
abbrev Sa : Type := Nat × List (Nat × Int32) × (Nat → Option (Nat × Nat × Bool)) × (Nat → List (List Nat × Option Nat × Option Nat)) × List (Nat × List (List Nat) × Nat × Nat) × (Nat → Nat) × List (Nat × Nat × Nat × Nat) × (Nat → Ch) × (Nat → Nat) × (Nat → Nat) × (Nat → List Nat)
abbrev sMin (s : Sa) : Nat := s.1
abbrev sLog (s : Sa) : List (Nat × Int32) := s.2.1
abbrev sLn (s : Sa) : Nat → Option (Nat × Nat × Bool) := s.2.2.1
abbrev sRt (s : Sa) : Nat → List (List Nat × Option Nat × Option Nat) := s.2.2.2.1
abbrev sMs (s : Sa) : List (Nat × List (List Nat) × Nat × Nat) := s.2.2.2.2.1
abbrev sCm (s : Sa) : Nat → Nat := s.2.2.2.2.2.1
abbrev sCp (s : Sa) : List (Nat × Nat × Nat × Nat) := s.2.2.2.2.2.2.1
abbrev sCh (s : Sa) : Nat → Ch := s.2.2.2.2.2.2.2.1
abbrev sUn (s : Sa) : Nat → Nat := s.2.2.2.2.2.2.2.2.1
abbrev sDb (s : Sa) : Nat → Nat := s.2.2.2.2.2.2.2.2.2.1
abbrev sDk (s : Sa) : Nat → List Nat := s.2.2.2.2.2.2.2.2.2.2
def sa0 : Sa := (0, [], fun _ => none, fun _ => [], [], fun _ => 0, [], fun _ => ch0, fun _ => 0, fun _ => 0, fun _ => [])
/-! the state with one part of it anew -/
abbrev wMin (s : Sa) (x : Nat) : Sa := (x, s.2)
abbrev wLog (s : Sa) (x : List (Nat × Int32)) : Sa := (s.1, x, s.2.2)
abbrev wLn (s : Sa) (x : Nat → Option (Nat × Nat × Bool)) : Sa := (s.1, s.2.1, x, s.2.2.2)
abbrev wRt (s : Sa) (x : Nat → List (List Nat × Option Nat × Option Nat)) : Sa := (s.1, s.2.1, s.2.2.1, x, s.2.2.2.2)
abbrev wMs (s : Sa) (x : List (Nat × List (List Nat) × Nat × Nat)) : Sa := (s.1, s.2.1, s.2.2.1, s.2.2.2.1, x, s.2.2.2.2.2)
abbrev wCm (s : Sa) (x : Nat → Nat) : Sa := (s.1, s.2.1, s.2.2.1, s.2.2.2.1, s.2.2.2.2.1, x, s.2.2.2.2.2.2)
abbrev wCp (s : Sa) (x : List (Nat × Nat × Nat × Nat)) : Sa := (s.1, s.2.1, s.2.2.1, s.2.2.2.1, s.2.2.2.2.1, s.2.2.2.2.2.1, x, s.2.2.2.2.2.2.2)
abbrev wCh (s : Sa) (x : Nat → Ch) : Sa := (s.1, s.2.1, s.2.2.1, s.2.2.2.1, s.2.2.2.2.1, s.2.2.2.2.2.1, s.2.2.2.2.2.2.1, x, s.2.2.2.2.2.2.2.2)
abbrev wUn (s : Sa) (x : Nat → Nat) : Sa := (s.1, s.2.1, s.2.2.1, s.2.2.2.1, s.2.2.2.2.1, s.2.2.2.2.2.1, s.2.2.2.2.2.2.1, s.2.2.2.2.2.2.2.1, x, s.2.2.2.2.2.2.2.2.2)
abbrev wDb (s : Sa) (x : Nat → Nat) : Sa := (s.1, s.2.1, s.2.2.1, s.2.2.2.1, s.2.2.2.2.1, s.2.2.2.2.2.1, s.2.2.2.2.2.2.1, s.2.2.2.2.2.2.2.1, s.2.2.2.2.2.2.2.2.1, x, s.2.2.2.2.2.2.2.2.2.2)
abbrev wDk (s : Sa) (x : Nat → List Nat) : Sa := (s.1, s.2.1, s.2.2.1, s.2.2.2.1, s.2.2.2.2.1, s.2.2.2.2.2.1, s.2.2.2.2.2.2.1, s.2.2.2.2.2.2.2.1, s.2.2.2.2.2.2.2.2.1, s.2.2.2.2.2.2.2.2.2.1, x)
/-- a line is at a switch -/
def atSw (s : Sa) (l x : Nat) : Bool := match sLn s l with
  | none => false
  | some (a, b, _) => a == x || b == x
def degree (s : Sa) (x : Nat) : Nat := ((List.range 8).filter fun l => atSw s l x).length
def serves (s : Sa) (l : Nat) : Bool := match sLn s l with
  | some (_, _, true) => true
  | _ => false
def entryOf (rt : List (List Nat × Option Nat × Option Nat)) (a : List Nat) : Option (List Nat × Option Nat × Option Nat) :=
  rt.foldl (fun b e => if e.1.isPrefixOf a then (match b with
    | none => some e
    | some b' => if b'.1.length < e.1.length then some e else b) else b) none
def takesB (s : Sa) (l : Option Nat) (by_ : Nat) : Bool := match l with
  | none => false
  | some j => !(j + 1 == by_) && serves s j
def deliverS (s : Sa) (sw m k : Nat) : Sa :=
  if (sCm s m).testBit k then wDb s (va_up (sDb s) sw (sDb s sw + 1)) else
  let s1 := wCm s (va_up (sCm s) m (sCm s m + 2 ^ k))
  if m ∈ sDk s sw then s1 else wDk s1 (va_up (sDk s) sw (sDk s sw ++ [m]))
/-- one address of a copy that comes to a switch: the state and the shares (of lines 0 .. 7; 8: held) behind it -/
def comeStep (sw m by_ : Nat) (as : List (List Nat)) (set k : Nat) (q : Sa × (Nat → Nat)) : Sa × (Nat → Nat) :=
  if set.testBit k = false then q else match entryOf (sRt q.1 sw) (as.getD k []) with
  | none => (wUn q.1 (va_up (sUn q.1) sw (sUn q.1 sw + 1)), q.2)
  | some (_, none, _) => (deliverS q.1 sw m k, q.2)
  | some (_, some j, o) => if takesB q.1 (some j) by_ then (q.1, va_up q.2 j (q.2 j + 2 ^ k)) else
    if takesB q.1 o by_ then (q.1, va_up q.2 (o.getD 0) (q.2 (o.getD 0) + 2 ^ k)) else (q.1, va_up q.2 8 (q.2 8 + 2 ^ k))
def comeLoop (sw m by_ : Nat) (as : List (List Nat)) (set : Nat) : Nat → Sa × (Nat → Nat) → Sa × (Nat → Nat)
  | 0, q => q
  | k + 1, q => comeStep sw m by_ as set k (comeLoop sw m by_ as set k q)
def sideOf (s : Sa) (l sw : Nat) : Nat := match sLn s l with
  | some (a, _, _) => if a = sw then 0 else 1
  | none => 1
def shareCopies (s : Sa) (sw m : Nat) (sh : Nat → Nat) (n : Nat) : List (Nat × Nat × Nat × Nat) :=
  (List.range n).filterMap fun l => if sh l = 0 then none else some (2 * l + sideOf s l sw, m, sh l, 0)
def comesS (s : Sa) (sw m set by_ : Nat) : Sa :=
  let as := (((sMs s).getD (m - 1) (0, [], 0, 0)).2.1)
  let q := comeLoop sw m by_ as set as.length (s, fun _ => 0)
  wCp q.1 (sCp q.1 ++ shareCopies q.1 sw m q.2 8 ++ (if q.2 8 = 0 then [] else [(16 + sw, m, q.2 8, by_)]))
def releaseN (sw : Nat) : Nat → Sa → Sa
  | 0, s => s
  | n + 1, s => match (sCp s).findIdx? (fun c => c.1 == 16 + sw) with
    | none => s
    | some i => let c := (sCp s).getD i (0, 0, 0, 0)
      releaseN sw n (comesS (wCp s ((sCp s).eraseIdx i)) sw c.2.1 c.2.2.1 c.2.2.2)
def releaseS (s : Sa) (sw : Nat) : Sa := releaseN sw ((sCp s).countP fun c => c.1 == 16 + sw) s
/-- a frame on a wire, if there is room -/
def layC (c : Ch) (f : Nat × Nat) : Ch := if (cWire c).length = 200 then c else (cSent c, cKept c, cExp c, cWire c ++ [f], cPut c, cAsk c)
/-- the k-th of what is kept, again on the wire -/
def layKeptC (c : Ch) (k minute : Nat) : Ch := let d := layC c (0, (cSent c).length - cKept c + k + 1)
  (cSent d, cKept d, cExp d, cWire d, minute, cAsk d)
def prioOf (s : Sa) (m : Nat) : Nat := ((sMs s).getD (m - 1) (0, [], 0, 0)).1
/-- the place of the copy that a channel sends next -/
def bestOf (s : Sa) (c : Nat) : Option Nat := (List.range (sCp s).length).foldl (fun b i => if ((sCp s).getD i (0, 0, 0, 0)).1 = c then (match b with
    | none => some i
    | some j => if prioOf s ((sCp s).getD i (0, 0, 0, 0)).2.1 < prioOf s ((sCp s).getD j (0, 0, 0, 0)).2.1 then some i else b) else b) none
end Spec
