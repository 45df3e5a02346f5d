/-! what the helpers do, on tables -/
def isST (T : TB) (s : Int32) : Bool := inR s (nI 0) (T 18 0 - nI 1)
def isCT (T : TB) (c : Int32) : Bool := inR c (nI 0) (T 5 0 - nI 1)
def isPT (p : Int32) : Bool := inR p (nI 0) (nI 5)
def mbT (T : TB) (c : Nat) (p : Int32) : Bool := isPT p && hasB (T 6 c) p
def isOfT (T : TB) (s p : Int32) : Bool := isST T s && mbT T (ix (T 19 (35 * ix s + 0))) p
def wholeT (T : TB) (s : Nat) : Int32 := T 19 (35 * s + 31) + T 19 (35 * s + 4 + 0) + T 19 (35 * s + 4 + 1) + T 19 (35 * s + 4 + 2) + T 19 (35 * s + 4 + 3) + T 19 (35 * s + 4 + 4) + T 19 (35 * s + 4 + 5) + T 19 (35 * s + 16 + 5 * 0 + 0) + T 19 (35 * s + 16 + 5 * 1 + 0) + T 19 (35 * s + 16 + 5 * 2 + 0)
def cnt (T : TB) (c s : Nat) : Bool := !decide (T 9 c = nI 3) && (decide (T 19 (35 * s + 2) = T 6 c) && decide (wholeT T s = T 8 c))
def nwT (T : TB) (c : Nat) : Nat → Int32
  | 0 => -1
  | n + 1 => if T 19 (35 * n + 0) = nI c ∧ cnt T c n = true then nI n else nwT T c n
def fxT (T : TB) (c s : Nat) : Bool := decide (T 9 c = nI 3) || !decide (T 19 (35 * s + 2) = 0)
def epT (T : TB) (s : Nat) : Int32 := if T 19 (35 * s + 16 + 5 * 0 + 0) ≤ 0 then nI 0 else if T 19 (35 * s + 16 + 5 * 1 + 0) ≤ 0 then nI 1 else if T 19 (35 * s + 16 + 5 * 2 + 0) ≤ 0 then nI 2 else -1
def frT (T : TB) (s p : Nat) : Int32 := T 19 (35 * s + 4 + p) - T 19 (35 * s + 10 + p)
def isLT (T : TB) (s : Nat) (k : Int32) : Bool := inR k (nI 0) (nI 2) && decide (0 < T 19 (35 * s + 16 + 5 * ix k + 0))
def payT (T : TB) (c p : Nat) (v : Int32) : TB := up (up T 0 p (T 0 p + v)) 8 c (T 8 c - v)
def shiT (k : Nat) : Int32 := nI 1 <<< (nI k &&& 31)
/-- a held lock's sum goes to p -/
def paysT (T : TB) (c k p b : Nat) : TB := up (payT T c p (lkT T b k 0)) 12 c (T 12 c - shiT k)
def showsT (T : TB) (c s : Nat) : TB := if T 9 c = nI 1 then up (up (up (up T 9 c (nI 2)) 10 c (nI s)) 11 c (T 2 0 + T 7 c)) 26 c (T 2 0 + T 7 c) else if T 19 (35 * ix (T 10 c) + 1) < T 19 (35 * s + 1) then up T 10 c (nI s) else T
def eShT (T : TB) (c s : Nat) : Nat → TB
  | 0 => T
  | p + 1 => payT (eShT T c s p) c p ((eShT T c s p) 19 (35 * s + 4 + p))
def eLkT (T : TB) (c s k : Nat) : TB := if T 19 (35 * s + 16 + 5 * k + 0) ≤ 0 then T else if T 19 (35 * s + 16 + 5 * k + 4) ≤ T 2 0 then paysT (up T 12 c (T 12 c + shiT k)) c k (ix (T 19 (35 * s + 16 + 5 * k + 1))) s else up T 12 c (T 12 c + shiT k)
def eGmT (T : TB) (c s : Nat) : TB := up (up (up (up (up T 13 c (T 19 (35 * s + 31))) 14 c (T 19 (35 * s + 32))) 15 c (T 19 (35 * s + 33))) 16 c (T 19 (35 * s + 34))) 17 c (T 2 0 + T 7 c)
def eGhT (T : TB) (c s : Nat) : TB := up (up (up T 25 c (-1)) 26 c 0) 27 c (if T 19 (35 * s + 31) = 0 then 0 else T 2 0 + T 7 c)
/-- a channel ends by a state -/
def endT (T : TB) (c s : Nat) : TB := eGhT (eGmT (eLkT (eLkT (eLkT (eShT (up (up (up T 9 c (nI 3)) 10 c (nI s)) 12 c (nI 0)) c s 6) c s 0) c s 1) c s 2) c s) c s
def canT (T : TB) (c b k p : Nat) : Bool := hasB (T 12 c) (nI k) && (decide (T 19 (35 * b + 16 + 5 * k + 2) = nI p) && hasB (T 4 (ix (T 19 (35 * b + 16 + 5 * k + 3)))) (nI p))
def clmT (T : TB) (c b k p : Nat) : TB := paysT (up T 4 (ix (T 19 (35 * b + 16 + 5 * k + 3))) (nI 63)) c k p b
def winT (T : TB) (c p : Nat) : TB := up (up (up (up (up T 0 p (T 0 p + T 13 c)) 8 c (T 8 c - T 13 c)) 13 c (nI 0)) 14 c (nI 0)) 27 c 0
def stpT (T : TB) (c : Nat) (take : Int32) : TB := if T 14 c - take = 0 then winT (up T 14 c (T 14 c - take)) c (ix (T 15 c)) else up (up (up (up (up T 14 c (T 14 c - take)) 15 c (T 16 c)) 16 c (T 15 c)) 17 c (T 2 0 + T 7 c)) 27 c (T 2 0 + T 7 c)
theorem isOfT_eq {T : TB} {S c : Nat} {p : Int32} (hS : S < 64) (hc : T 19 (35 * S + 0) = nI c) (hc8 : c < 8) : isOfT T (nI S) p = (isST T (nI S) && mbT T c p) := by
  unfold isOfT
  rw [show ix (nI S) = S from nI_clamp (by omega), hc, show ix (nI c) = c from nI_clamp (by omega)]
