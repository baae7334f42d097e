/-! What the class's methods do to the memory of one aqueduct, as pure functions: one a method, in the method's own order. Q f i: the arch i's field f (0 height, 1 size, 2 water, 3 wear, 4 drops, 5 leaked, 6 appetite, 7 tenths, 8 flour, 9 took); Q 10 k: the aqueduct's field k (3 arches, 4 hour, 5 coins, 6 holds, 7 cistern, 8 given, 9 spilt, 10 used, 11 drunk, 12 thirst) -/
def aq_fillR (Q : aq_Q) (i : Nat) (o : Int32) : Int32 := aq_mn o (Q 1 i - Q 2 i)
def aq_fillQ (Q : aq_Q) (i : Nat) (o : Int32) : aq_Q := aq_up Q 2 i (Q 2 i + aq_fillR Q i o)
def aq_leadQ1 (Q : aq_Q) (i : Nat) (g : Int32) : aq_Q := aq_up Q 9 i (aq_mn (g * Q 7 i / 10) (Q 6 i))
def aq_leadQ (Q : aq_Q) (i : Nat) (g : Int32) : aq_Q := aq_up (aq_leadQ1 Q i g) 2 i (aq_leadQ1 Q i g 2 i - aq_leadQ1 Q i g 9 i)
def aq_leadR (Q : aq_Q) (i : Nat) (g : Int32) : Int32 := g - aq_leadQ Q i g 9 i
def aq_grindQ (Q : aq_Q) (i : Nat) : aq_Q := aq_up Q 8 i (Q 8 i + Q 9 i)
def aq_grindR (Q : aq_Q) (i : Nat) : Int32 := aq_grindQ Q i 8 i / 10 - Q 8 i / 10
def aq_leak1 (Q : aq_Q) (i : Nat) : aq_Q := aq_up Q 4 i (Q 4 i + Q 2 i * Q 3 i / 10)
def aq_lost (Q : aq_Q) (i : Nat) : Int32 := aq_mn (aq_leak1 Q i 4 i / 10) (aq_leak1 Q i 2 i)
def aq_leak2 (Q : aq_Q) (i : Nat) : aq_Q := aq_up (aq_leak1 Q i) 4 i (aq_leak1 Q i 4 i - aq_leak1 Q i 4 i / 10 * 10)
def aq_leak3 (Q : aq_Q) (i : Nat) : aq_Q := aq_up (aq_leak2 Q i) 2 i (aq_leak2 Q i 2 i - aq_lost Q i)
def aq_leakQ (Q : aq_Q) (i : Nat) : aq_Q := aq_up (aq_leak3 Q i) 5 i (aq_leak3 Q i 5 i + aq_lost Q i)
def aq_hasMill (Q : aq_Q) (i : Nat) : Int32 := if Q 6 i ≤ 0 then 0 else 1
def aq_hasOpen (Q : aq_Q) (i : Nat) : Int32 := if aq_hasMill Q i = 0 then 0 else if Q 7 i ≤ 0 then 0 else 1
def aq_wearByQ (Q : aq_Q) (i : Nat) (x : Int32) : aq_Q := aq_up Q 3 i (aq_mn 50 (Q 3 i + x))
def aq_wearDayQ (Q : aq_Q) (i : Nat) : aq_Q := if Q 2 i ≤ 0 then Q else if aq_hasOpen Q i = 0 then aq_wearByQ Q i 1 else aq_wearByQ Q i 2
def aq_millNo (Q : aq_Q) (i w : Nat) : Int32 := if aq_hasMill Q i = 0 then (-1) else (match w with | 0 => Q 6 i | 1 => Q 7 i | 2 => Q 8 i | _ => Q 9 i)
