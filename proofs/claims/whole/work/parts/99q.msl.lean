section Msl
/-! how many messages there are behind a call -/
theorem deliverS_ms (s : Sa) (x m k : Nat) : sMs (deliverS s x m k) = sMs s := by
  unfold deliverS
  repeat' split
  all_goals rfl
theorem comeStep_ms (x m by1 : Nat) (as : List (List Nat)) (set k : Nat) (q : Sa × (Nat → Nat)) : sMs (comeStep x m by1 as set k q).1 = sMs q.1 := by
  unfold comeStep
  repeat' split
  all_goals first | rfl | exact deliverS_ms _ _ _ _
theorem comeLoop_ms (x m by1 : Nat) (as : List (List Nat)) (set : Nat) : ∀ (k : Nat) (q : Sa × (Nat → Nat)), sMs (comeLoop x m by1 as set k q).1 = sMs q.1
  | 0, _ => rfl
  | k + 1, q => by rw [comeLoop, comeStep_ms, comeLoop_ms x m by1 as set k q]
theorem comesS_ms (s : Sa) (x m set by1 : Nat) : sMs (comesS s x m set by1) = sMs s := by
  unfold comesS
  exact comeLoop_ms _ _ _ _ _ _ _
theorem releaseN_ms (x : Nat) : ∀ (k : Nat) (s : Sa), sMs (releaseN x k s) = sMs s
  | 0, _ => rfl
  | k + 1, s => by
    rw [releaseN]
    split
    · rfl
    · rw [releaseN_ms x k, comesS_ms]
theorem meetS_ms (s : Sa) (l j k se : Nat) : sMs (meetS s l j k se).2 = sMs s := by
  unfold meetS
  dsimp only
  repeat' split
  all_goals first | rfl | exact comesS_ms _ _ _ _ _
theorem msl_line (s : Sa) (z x y : Int32) : (sMs (stLine s z x y).2.2).length ≤ (sMs s).length + 1 := by
  unfold stLine
  split <;> exact Nat.le_succ _
theorem msl_route (s : Sa) (x one two ln mn ot : Int32) : (sMs (stRoute s x one two ln mn ot).2.2).length ≤ (sMs s).length + 1 := by
  unfold stRoute
  repeat' split
  all_goals exact Nat.le_succ _
theorem msl_put (s : Sa) (i w : Int32) : (sMs (stPut s i w).2.2).length ≤ (sMs s).length + 1 := by
  unfold stPut
  split <;> exact Nat.le_succ _
theorem msl_file (s : Sa) (x z : Int32) : (sMs (stFile s x z).2.2).length ≤ (sMs s).length + 1 := by
  unfold stFile
  repeat' split
  all_goals first
    | exact Nat.le_succ _
    | (dsimp only
       rw [comesS_ms]
       show (sMs s ++ [_]).length ≤ _
       rw [List.length_append]
       exact Nat.le_refl _)
theorem msl_send (s : Sa) (l c : Int32) : (sMs (stSend s l c).2.2).length ≤ (sMs s).length + 1 := by
  unfold stSend
  repeat' split
  all_goals exact Nat.le_succ _
theorem msl_carry (s : Sa) (l c : Int32) : (sMs (stCarry s l c).2.2).length ≤ (sMs s).length + 1 := by
  unfold stCarry
  repeat' split
  all_goals first
    | exact Nat.le_succ _
    | (dsimp only [carryS]
       repeat' split
       all_goals first | exact Nat.le_succ _ | (rw [meetS_ms]; exact Nat.le_succ _))
theorem msl_disturb (s : Sa) (l c w : Int32) : (sMs (stDisturb s l c w).2.2).length ≤ (sMs s).length + 1 := by
  unfold stDisturb
  repeat' split
  all_goals exact Nat.le_succ _
theorem msl_serve (s : Sa) (l : Int32) (w : Bool) : (sMs (stServe s l w).2.2).length ≤ (sMs s).length + 1 := by
  unfold stServe
  repeat' split
  all_goals first
    | exact Nat.le_succ _
    | (dsimp only [serveS]
       split
       · unfold releaseS
         rw [releaseN_ms, releaseN_ms]
         exact Nat.le_succ _
       · exact Nat.le_succ _)
theorem msl_time (s : Sa) (t : Int32) : (sMs (stTime s t).2.2).length ≤ (sMs s).length + 1 := by
  unfold stTime
  split <;> exact Nat.le_succ _
theorem msl_delivered (s : Sa) (x : Int32) : (sMs (stDelivered s x).2.2).length ≤ (sMs s).length + 1 := by
  unfold stDelivered
  split <;> exact Nat.le_succ _
theorem msl_read (s : Sa) (x k i : Int32) : (sMs (stRead s x k i).2.2).length ≤ (sMs s).length + 1 := by
  unfold stRead
  repeat' split
  all_goals exact Nat.le_succ _
theorem msl_arrived (s : Sa) (m k : Int32) : (sMs (stArrived s m k).2.2).length ≤ (sMs s).length + 1 := by
  unfold stArrived
  repeat' split
  all_goals exact Nat.le_succ _
theorem msl_channel (s : Sa) (l c w : Int32) : (sMs (stChannel s l c w).2.2).length ≤ (sMs s).length + 1 := by
  unfold stChannel
  repeat' split
  all_goals exact Nat.le_succ _
theorem msl_count (s : Sa) (x w : Int32) : (sMs (stCount s x w).2.2).length ≤ (sMs s).length + 1 := by
  unfold stCount
  repeat' split
  all_goals exact Nat.le_succ _
/-! what the calls may cost -/
def stepK (t : Nat) : Nat := 7 * min t 200 + 23
def stepN (t : Nat) : Nat := 28 * min t 200 + 1640
def lawK : Nat → Nat
  | 0 => 0
  | r + 1 => lawK r + stepK (511 - r)
def lawN : Nat → Nat
  | 0 => 0
  | r + 1 => lawN r + stepN (511 - r)
theorem lawK_512 : lawK 512 ≤ 590000 := by decide +kernel
theorem lawN_512 : lawN 512 ≤ 3200000 := by decide +kernel
end Msl
