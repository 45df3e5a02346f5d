/-! WHAT HOLDS BETWEEN CALLS, and what each call does, on tables -/
theorem ix_nI {n : Nat} (h : n < 2 ^ 31) : ix (nI n) = n := nI_clamp h
def okI (x : Int32) (b : Nat) : Prop := ∃ k, k < b ∧ x = nI k
theorem okI.ix {x : Int32} {b : Nat} (hb : b ≤ 2 ^ 31) (h : okI x b) : x = nI (ix x) ∧ ix x < b := by
  obtain ⟨k, h1, rfl⟩ := h
  rw [ix_nI (by omega)]
  exact ⟨rfl, h1⟩
theorem okI.mono {x : Int32} {b b' : Nat} (h : okI x b) (hb : b ≤ b') : okI x b' := by
  obtain ⟨k, h1, h2⟩ := h
  exact ⟨k, by omega, h2⟩
theorem okI_nI {k b : Nat} (h : k < b) : okI (nI k) b := ⟨k, h, rfl⟩
def gmI (st hp tu ot : Int32) : Prop := 0 ≤ st ∧ (st ≠ 0 → okI tu 6 ∧ okI ot 6 ∧ ∃ k, 0 < k ∧ k ≤ 20 ∧ hp = nI k)
def IvG (T : TB) (C n Z hN : Nat) : Prop := T 5 0 = nI C ∧ C ≤ 8 ∧ T 18 0 = nI n ∧ n ≤ 64 ∧ T 3 0 = nI Z ∧ Z ≤ 16 ∧ T 20 0 = nI hN ∧ hN ≤ 4 ∧ okI (T 1 0) 64 ∧ (∀ z, z < 16 → okI (T 4 z) 64) ∧ ∀ c, C ≤ c → T 12 c = 0 ∧ T 13 c = 0
def IvH (T : TB) (C hN : Nat) : Prop := (∀ q, q < hN → okI (T 21 q) C ∧ okI (T 22 q) 6 ∧ okI (T 23 q) 6) ∧ ∀ q r, q < r → r < hN → T 21 q ≠ T 21 r
def IvL (T : TB) (Z s k : Nat) : Prop := 0 ≤ lkT T s k 0 ∧ okI (lkT T s k 1) 6 ∧ okI (lkT T s k 2) 6 ∧ okI (lkT T s k 3) 16 ∧ (lkT T s k 0 ≠ 0 → okI (lkT T s k 3) Z)
/-- of a state, its own numbers -/
def IvS (T : TB) (Z s : Nat) : Prop := okI (T 19 (35 * s + 2)) 64 ∧ okI (T 19 (35 * s + 3)) 64 ∧ (∀ k, k < 3 → IvL T Z s k) ∧ gmI (T 19 (35 * s + 31)) (T 19 (35 * s + 32)) (T 19 (35 * s + 33)) (T 19 (35 * s + 34)) ∧ (T 19 (35 * s + 31) = 0 → T 19 (35 * s + 32) = 0 ∧ T 19 (35 * s + 33) = -1 ∧ T 19 (35 * s + 34) = -1) ∧ ∀ p, p < 6 → 0 ≤ T 19 (35 * s + 10 + p) ∧ T 19 (35 * s + 10 + p) ≤ nI 60000
/-- of a state in its channel; i: how many calls there were -/
def IvR (T : TB) (C i s : Nat) : Prop := ∃ c, c < C ∧ T 19 (35 * s + 0) = nI c ∧ T 19 (35 * s + 1) = rkT T c s ∧ (T 9 c ≠ nI 3 → 0 ≤ (wholeT T s - T 8 c).toInt ∧ (wholeT T s - T 8 c).toInt ≤ 400000 * (i : Int))
/-- of a channel -/
def IvC (T : TB) (n c : Nat) : Prop := okI (T 6 c) 64 ∧ T 6 c ≠ 0 ∧ (T 9 c = nI 1 ∨ T 9 c = nI 2 ∨ T 9 c = nI 3) ∧ (T 9 c = nI 1 → T 10 c = -1) ∧ (T 9 c ≠ nI 1 → ∃ b, b < n ∧ T 10 c = nI b ∧ T 19 (35 * b + 0) = nI c) ∧ T 24 c = rkT T c n ∧ (T 9 c = nI 3 → T 25 c = -1) ∧ (T 9 c ≠ nI 3 → T 25 c = nwT T c n ∧ ∃ s, s < n ∧ nwT T c n = nI s) ∧ (T 9 c = nI 2 → T 26 c = T 11 c) ∧ (T 9 c ≠ nI 2 → T 26 c = 0)
/-- what is held of a channel -/
def IvE (T : TB) (c : Nat) : Prop := okI (T 12 c) 8 ∧ (T 9 c ≠ nI 3 → T 12 c = 0 ∧ T 13 c = 0) ∧ (∀ k, k < 3 → hasB (T 12 c) (nI k) = true → 0 < lkT T (ix (T 10 c)) k 0) ∧ gmI (T 13 c) (T 14 c) (T 15 c) (T 16 c) ∧ (T 13 c ≠ 0 → T 27 c = T 17 c) ∧ (T 13 c = 0 → T 27 c = 0)
def Iv (i : Nat) (T : TB) (C n Z hN : Nat) : Prop := IvG T C n Z hN ∧ IvH T C hN ∧ (∀ s, s < n → IvS T Z s ∧ IvR T C i s) ∧ ∀ c, c < C → IvC T n c ∧ IvE T c
section IV
variable {i : Nat} {T : TB} {C n Z hN : Nat}
theorem Iv.c5 (H : Iv i T C n Z hN) : T 5 0 = nI C := H.1.1
theorem Iv.C8 (H : Iv i T C n Z hN) : C ≤ 8 := H.1.2.1
theorem Iv.n18 (H : Iv i T C n Z hN) : T 18 0 = nI n := H.1.2.2.1
theorem Iv.n64 (H : Iv i T C n Z hN) : n ≤ 64 := H.1.2.2.2.1
theorem Iv.z3 (H : Iv i T C n Z hN) : T 3 0 = nI Z := H.1.2.2.2.2.1
theorem Iv.Z16 (H : Iv i T C n Z hN) : Z ≤ 16 := H.1.2.2.2.2.2.1
theorem Iv.h20 (H : Iv i T C n Z hN) : T 20 0 = nI hN := H.1.2.2.2.2.2.2.1
theorem Iv.h4 (H : Iv i T C n Z hN) : hN ≤ 4 := H.1.2.2.2.2.2.2.2.1
theorem Iv.w1 (H : Iv i T C n Z hN) : okI (T 1 0) 64 := H.1.2.2.2.2.2.2.2.2.1
theorem Iv.k4 (H : Iv i T C n Z hN) {z : Nat} (hz : z < 16) : okI (T 4 z) 64 := H.1.2.2.2.2.2.2.2.2.2.1 z hz
theorem Iv.st (H : Iv i T C n Z hN) {s : Nat} (hs : s < n) : IvS T Z s := (H.2.2.1 s hs).1
theorem Iv.sr (H : Iv i T C n Z hN) {s : Nat} (hs : s < n) : IvR T C i s := (H.2.2.1 s hs).2
theorem Iv.ch (H : Iv i T C n Z hN) {c : Nat} (hc : c < C) : IvC T n c := (H.2.2.2 c hc).1
theorem Iv.he (H : Iv i T C n Z hN) {c : Nat} (hc : c < C) : IvE T c := (H.2.2.2 c hc).2
theorem Iv.so (H : Iv i T C n Z hN) {s : Nat} (hs : s < n) : ∃ c, c < C ∧ T 19 (35 * s + 0) = nI c := by
  obtain ⟨c, h1, h2, _⟩ := H.sr hs
  exact ⟨c, h1, h2⟩
/-- a number of a state that there is -/
theorem Iv.oST (H : Iv i T C n Z hN) {s : Int32} (hs : isST T s = true) : ∃ S c, s = nI S ∧ S < n ∧ c < C ∧ T 19 (35 * S + 0) = nI c := by
  unfold isST at hs
  rw [H.n18] at hs
  have := H.n64
  obtain ⟨S, h1, h2⟩ := inR_lt (by omega) hs
  obtain ⟨c, h3, h4⟩ := H.so h1
  exact ⟨S, c, h2, h1, h3, h4⟩
theorem Iv.oST' (H : Iv i T C n Z hN) {s : Int32} (hs : isST T s = true) : ∃ S c, s = nI S ∧ S < 64 ∧ c < 8 ∧ T 19 (35 * S + 0) = nI c := by
  obtain ⟨S, c, h1, h2, h3, h4⟩ := H.oST hs
  have := H.n64
  have := H.C8
  exact ⟨S, c, h1, by omega, by omega, h4⟩
theorem Iv.oCT (H : Iv i T C n Z hN) {c : Int32} (hc : isCT T c = true) : ∃ c0, c = nI c0 ∧ c0 < C := by
  unfold isCT at hc
  rw [H.c5] at hc
  have := H.C8
  obtain ⟨S, h1, h2⟩ := inR_lt (by omega) hc
  exact ⟨S, h2, h1⟩
theorem isPT_nI {p : Int32} (h : isPT p = true) : ∃ P, P < 6 ∧ p = nI P := by
  unfold isPT at h
  obtain ⟨K, h1, h2⟩ := inR_nI (by omega) h
  exact ⟨K, by omega, h2⟩
theorem mbT_nI {c : Nat} {p : Int32} (h : mbT T c p = true) : ∃ P, P < 6 ∧ p = nI P := by
  unfold mbT at h
  exact isPT_nI (by simp_all)
/-- a state that there is, and a member of its channel -/
theorem Iv.oOf (H : Iv i T C n Z hN) {s p : Int32} (h : isOfT T s p = true) : ∃ S c P, s = nI S ∧ p = nI P ∧ S < n ∧ c < C ∧ P < 6 ∧ T 19 (35 * S + 0) = nI c ∧ mbT T c (nI P) = true := by
  unfold isOfT at h
  rw [Bool.and_eq_true] at h
  obtain ⟨S, c, h1, h2, h3, h4⟩ := H.oST h.1
  have hm := h.2
  have := H.n64
  have := H.C8
  rw [h1, ix_nI (by omega), h4, ix_nI (by omega)] at hm
  obtain ⟨P, h5, h6⟩ := mbT_nI hm
  exact ⟨S, c, P, h1, h6, h2, h3, h5, h4, by rw [← h6]; exact hm⟩
end IV
/-! what each call does -/
abbrev chOf (T : TB) (s : Int32) : Nat := ix (T 19 (35 * ix s + 0))
def isZT (T : TB) (z : Int32) : Bool := inR z (nI 0) (T 3 0 - nI 1)
def poor1 (T : TB) (set v : Int32) (p : Nat) : Bool := hasB set (nI p) && decide (T 0 p < v)
def poorT (T : TB) (set v : Int32) : Bool := poor1 T set v 0 || poor1 T set v 1 || poor1 T set v 2 || poor1 T set v 3 || poor1 T set v 4 || poor1 T set v 5
def dep1 (T : TB) (n : Nat) (set v : Int32) (p : Nat) : TB := if hasB set (nI p) = true then up (up T 0 p (T 0 p - v)) 19 (35 * n + 4 + p) v else T
def dep6 (T : TB) (n : Nat) (set v : Int32) : TB := dep1 (dep1 (dep1 (dep1 (dep1 (dep1 T n set v 0) n set v 1) n set v 2) n set v 3) n set v 4) n set v 5
def chn0 (T : TB) (C : Nat) (set v d : Int32) : TB := up (up (up (up (up (up (up (up (up T 5 0 (nI (C + 1))) 6 C set) 7 C d) 8 C (sizeT set * v)) 9 C (nI 1)) 10 C (-1)) 24 C (nI 0)) 26 C 0) 27 C 0
def chn1 (T : TB) (C n : Nat) (set v d : Int32) : TB := up (up (dep6 (blkT (chn0 T C set v d) C n) n set v) 19 (35 * n + 2) set) 25 C (nI n)
def channelT (T : TB) (C n : Nat) (set v d : Int32) : Int32 × TB :=
  if inR set (nI 0) (nI 63) = false then (-1, T)
  else if inR v (nI 0) (nI 10000) = false ∨ inR d (nI 2) (nI 20) = false ∨ inR (sizeT set) (nI 2) (nI 4) = false then (-3, T)
  else if T 5 0 = nI 8 ∨ T 18 0 = nI 64 ∨ poorT T set v = true then (-4, T)
  else (nI C, chn1 T C n set v d)
def stateT (T : TB) (n : Nat) (c : Int32) : Int32 × TB :=
  if isCT T c = false then (-1, T)
  else if T 9 (ix c) = nI 3 then (-2, T)
  else if T 18 0 = nI 64 then (-4, T)
  else (nI n, copT T (ix c) n (ix (nwT T (ix c) n)))
def chgT (T : TB) (S F P : Nat) (v : Int32) : TB := up (up T 19 (35 * S + 4 + F) (T 19 (35 * S + 4 + F) - v)) 19 (35 * S + 4 + P) ((up T 19 (35 * S + 4 + F) (T 19 (35 * S + 4 + F) - v)) 19 (35 * S + 4 + P) + v)
def changeT (T : TB) (s f t v : Int32) : Int32 × TB :=
  if isOfT T s f = false ∨ isOfT T s t = false then (-1, T)
  else if fxT T (chOf T s) (ix s) = true then (-2, T)
  else if inR v (nI 1) (nI 60000) = false then (-3, T)
  else if f = t ∨ frT T (ix s) (ix f) < v then (-4, T)
  else ((chgT T (ix s) (ix f) (ix t) v) 19 (35 * ix s + 4 + ix f), chgT T (ix s) (ix f) (ix t) v)
def lockT (T : TB) (s f t v z e : Int32) : Int32 × TB :=
  if isOfT T s f = false ∨ isOfT T s t = false ∨ isZT T z = false then (-1, T)
  else if fxT T (chOf T s) (ix s) = true then (-2, T)
  else if inR v (nI 1) (nI 60000) = false ∨ inR e (nI 1) (nI 1000000) = false then (-3, T)
  else if f = t ∨ frT T (ix s) (ix f) < v ∨ epT T (ix s) = -1 then (-4, T)
  else (epT T (ix s), lksT T (ix s) (ix (epT T (ix s))) (ix f) (ix t) (ix z) v e)
def ulkT (T : TB) (S K P : Nat) : TB := up (up (up (up (up (up T 19 (35 * S + 4 + P) (T 19 (35 * S + 4 + P) + lkT T S K 0)) 19 (35 * S + 16 + 5 * K + 0) (nI 0)) 19 (35 * S + 16 + 5 * K + 1) (nI 0)) 19 (35 * S + 16 + 5 * K + 2) (nI 0)) 19 (35 * S + 16 + 5 * K + 3) (nI 0)) 19 (35 * S + 16 + 5 * K + 4) (nI 0)
def unlockT (T : TB) (s k op : Int32) : Int32 × TB :=
  if isST T s = false ∨ isLT T (ix s) k = false then (-1, T)
  else if fxT T (chOf T s) (ix s) = true then (-2, T)
  else (lkT T (ix s) (ix k) 0, ulkT T (ix s) (ix k) (ix (if op = 0 then lkT T (ix s) (ix k) 1 else lkT T (ix s) (ix k) 2)))
def gamT (T : TB) (S P Q : Nat) (v hp : Int32) : TB := up (up (up (up (up (up T 19 (35 * S + 4 + P) (T 19 (35 * S + 4 + P) - v)) 19 (35 * S + 4 + Q) ((up T 19 (35 * S + 4 + P) (T 19 (35 * S + 4 + P) - v)) 19 (35 * S + 4 + Q) - v)) 19 (35 * S + 31) (nI 2 * v)) 19 (35 * S + 32) hp) 19 (35 * S + 33) (nI P)) 19 (35 * S + 34) (nI Q)
def gameT (T : TB) (s p q v hp : Int32) : Int32 × TB :=
  if isOfT T s p = false ∨ isOfT T s q = false then (-1, T)
  else if fxT T (chOf T s) (ix s) = true then (-2, T)
  else if inR v (nI 1) (nI 10000) = false ∨ inR hp (nI 1) (nI 20) = false then (-3, T)
  else if p = q ∨ 0 < T 19 (35 * ix s + 31) ∨ frT T (ix s) (ix p) < v ∨ frT T (ix s) (ix q) < v then (-4, T)
  else (nI 2 * v, gamT T (ix s) (ix p) (ix q) v hp)
def mov0 (T : TB) (S : Nat) (t : Int32) : TB := up (up (up T 19 (35 * S + 32) (T 19 (35 * S + 32) - t)) 19 (35 * S + 33) (T 19 (35 * S + 34))) 19 (35 * S + 34) (T 19 (35 * S + 33))
def movT (T : TB) (S : Nat) (t : Int32) : TB := if T 19 (35 * S + 32) - t = 0 then up (up (up (up (mov0 T S t) 19 (35 * S + 4 + ix (T 19 (35 * S + 33))) (T 19 (35 * S + 4 + ix (T 19 (35 * S + 33))) + T 19 (35 * S + 31))) 19 (35 * S + 31) (nI 0)) 19 (35 * S + 33) (-1)) 19 (35 * S + 34) (-1) else mov0 T S t
def moveT (T : TB) (s t : Int32) : Int32 × TB :=
  if isST T s = false then (-1, T)
  else if fxT T (chOf T s) (ix s) = true then (-2, T)
  else if inR t (nI 1) (nI 3) = false then (-3, T)
  else if T 19 (35 * ix s + 31) = 0 ∨ T 19 (35 * ix s + 32) < t then (-4, T)
  else (T 19 (35 * ix s + 32) - t, movT T (ix s) t)
def outsT (T : TB) (s p v : Int32) : Int32 × TB :=
  if isOfT T s p = false then (-1, T)
  else if fxT T (chOf T s) (ix s) = true then (-2, T)
  else if inR v (nI 0) (nI 60000) = false then (-3, T)
  else if T 19 (35 * ix s + 4 + ix p) < v then (-4, T)
  else (T 19 (35 * ix s + 10 + ix p), up T 19 (35 * ix s + 10 + ix p) v)
def sgn0 (T : TB) (S P : Nat) : TB := up T 19 (35 * S + 2) (T 19 (35 * S + 2) + shiT P)
def sgnT (T : TB) (c n S P : Nat) : TB := up (sgn0 T S P) 25 c (nwT (sgn0 T S P) c n)
def signT (T : TB) (n : Nat) (s p : Int32) : Int32 × TB :=
  if isOfT T s p = false then (-1, T)
  else if T 9 (chOf T s) = nI 3 then (-2, T)
  else if hasB (T 19 (35 * ix s + 2)) p = true then (-4, T)
  else (sizeT (T 19 (35 * ix s + 2) + shiT (ix p)), sgnT T (chOf T s) n (ix s) (ix p))
def showT (T : TB) (s p : Int32) : Int32 × TB :=
  if isOfT T s p = false then (-1, T)
  else if T 9 (chOf T s) = nI 3 then (-2, T)
  else if cnt T (chOf T s) (ix s) = false ∨ (T 9 (chOf T s) = nI 2 ∧ T 19 (35 * ix s + 1) ≤ T 19 (35 * ix (T 10 (chOf T s)) + 1)) then (-4, T)
  else ((showsT T (chOf T s) (ix s)) 11 (chOf T s), showsT T (chOf T s) (ix s))
def agr0 (T : TB) (S P : Nat) : TB := up T 19 (35 * S + 3) (T 19 (35 * S + 3) + shiT P)
def agreeT (T : TB) (n : Nat) (s p : Int32) : Int32 × TB :=
  if isOfT T s p = false then (-1, T)
  else if ¬ T 9 (chOf T s) = nI 1 then (-2, T)
  else if ¬ nwT T (chOf T s) n = s ∨ hasB (T 19 (35 * ix s + 3)) p = true then (-4, T)
  else (sizeT (T 19 (35 * ix s + 3) + shiT (ix p)), if T 19 (35 * ix s + 3) + shiT (ix p) = T 6 (chOf T s) then toT (agr0 T (ix s) (ix p)) (chOf T s) (ix s) else agr0 T (ix s) (ix p))
def secT (T : TB) (Z P : Nat) : TB := up (up T 4 Z (shiT P)) 3 0 (nI (Z + 1))
def secretT (T : TB) (Z : Nat) (p : Int32) : Int32 × TB :=
  if isPT p = false then (-1, T)
  else if T 3 0 = nI 16 then (-4, T)
  else (nI Z, secT T Z (ix p))
def tellT (T : TB) (z f t : Int32) : Int32 × TB :=
  if isZT T z = false ∨ isPT f = false ∨ isPT t = false then (-1, T)
  else if hasB (T 4 (ix z)) f = false then (-4, T)
  else (if T 4 (ix z) ||| shiT (ix t) = T 4 (ix z) then nI 0 else nI 1, up T 4 (ix z) (T 4 (ix z) ||| shiT (ix t)))
def claimT (T : TB) (c k p : Int32) : Int32 × TB :=
  if isCT T c = false ∨ inR k (nI 0) (nI 2) = false ∨ isPT p = false then (-1, T)
  else if ¬ T 9 (ix c) = nI 3 then (-2, T)
  else if canT T (ix c) (ix (T 10 (ix c))) (ix k) (ix p) = true then (lkT T (ix (T 10 (ix c))) (ix k) 0, clmT T (ix c) (ix (T 10 (ix c))) (ix k) (ix p))
  else (-4, T)
def stepT (T : TB) (c p t : Int32) : Int32 × TB :=
  if isCT T c = false ∨ isPT p = false then (-1, T)
  else if T 13 (ix c) = 0 then (-2, T)
  else if inR t (nI 1) (nI 3) = false then (-3, T)
  else if ¬ T 15 (ix c) = p ∨ T 14 (ix c) < t then (-4, T)
  else ((stpT T (ix c) t) 14 (ix c), stpT T (ix c) t)
def wchV (w : Int32) (P : Nat) (on : Int32) : Int32 := if on = 0 then (if bitT w P = nI 1 then w + -shiT P else w) else (if bitT w P = nI 1 then w else w + shiT P)
def watchT (T : TB) (p on : Int32) : Int32 × TB :=
  if isPT p = false then (-1, T)
  else (bitT (T 1 0) (ix p), up T 1 0 (wchV (T 1 0) (ix p) on))
def duesI (T : TB) (c : Nat) : TB := duesT T c (ix (du1 T c 10 c))
def watI (T : TB) (c n p : Nat) : TB := watT T c (ix (nwT T c n)) (ix (T 10 c)) p
def duA (T : TB) : Nat → TB
  | 0 => T
  | c + 1 => duesI (duA T c) c
def waA (T : TB) (n p : Nat) : Nat → TB
  | 0 => T
  | c + 1 => if hasB ((waA T n p c) 6 c) (nI p) = true then watI (waA T n p c) c n p else waA T n p c
def waP (T : TB) (C n p : Nat) : TB := if hasB (T 1 0) (nI p) = true then waA T n p C else T
def waN (T : TB) (C n : Nat) : Nat → TB
  | 0 => T
  | p + 1 => waP (waN T C n p) C n p
def omT (T : TB) (C n : Nat) : TB := waN (duA (up T 2 0 (T 2 0 + nI 1)) C) C n 6
def omN (T : TB) (C n : Nat) : Nat → TB
  | 0 => T
  | k + 1 => omT (omN T C n k) C n
def heightT (T : TB) (C n : Nat) (k : Int32) : Int32 × TB :=
  if inR k (nI 1) (nI 100) = false then (-3, T)
  else ((omN T C n (ix k)) 2 0, omN T C n (ix k))
def agT (T : TB) (c : Int32) : Nat → Bool
  | 0 => false
  | q + 1 => agT T c q || decide (T 21 q = c)
def hpT (T : TB) (hN : Nat) (c f t : Int32) : TB := up (up (up (up T 21 hN c) 22 hN f) 23 hN t) 20 0 (nI (hN + 1))
def hopT (T : TB) (hN : Nat) (c f t : Int32) : Int32 × TB :=
  if isCT T c = false ∨ mbT T (ix c) f = false ∨ mbT T (ix c) t = false then (-1, T)
  else if ¬ T 9 (ix c) = nI 1 then (-2, T)
  else if hN = 4 ∨ f = t ∨ agT T c hN = true ∨ (0 < hN ∧ ¬ T 23 (hN - 1) = f) then (-4, T)
  else (nI (hN + 1), hpT T hN c f t)
abbrev hpC (T : TB) (q : Nat) : Nat := ix (T 21 q)
def hbad (T : TB) (n : Nat) (v : Int32) (q : Nat) : Bool := !decide (T 9 (hpC T q) = nI 1) || decide (T 19 (35 * ix (nwT T (hpC T q) n) + 4 + ix (T 22 q)) < v) || decide (epT T (ix (nwT T (hpC T q) n)) = -1)
def hbA (T : TB) (n : Nat) (v : Int32) : Nat → Bool
  | 0 => false
  | q + 1 => hbA T n v q || hbad T n v q
def endE (T : TB) (e : Int32) : Nat → Int32
  | 0 => e
  | q + 1 => endE T e q + (T 7 (hpC T q) + nI 1)
/-- one hop is paid: a new state n, a lock in it, all sign it -/
def pyh0 (T : TB) (n q Z : Nat) (v e : Int32) : TB := lksT (copT T (hpC T q) n (ix (nwT T (hpC T q) n))) n (ix (epT (copT T (hpC T q) n (ix (nwT T (hpC T q) n))) n)) (ix (T 22 q)) (ix (T 23 q)) Z v e
def pyhT (T : TB) (n q Z : Nat) (v e : Int32) : TB := up (up (pyh0 T n q Z v e) 19 (35 * n + 2) (T 6 (hpC T q))) 25 (hpC T q) (nI n)
def pyhA (T : TB) (n Z : Nat) (v e : Int32) : Nat → TB × Int32
  | 0 => (T, e)
  | q + 1 => (pyhT (pyhA T n Z v e q).1 (n + q) q Z v (pyhA T n Z v e q).2, (pyhA T n Z v e q).2 - ((pyhA T n Z v e q).1 7 (hpC (pyhA T n Z v e q).1 q) + nI 1))
def payT0 (T : TB) (n Z hN : Nat) (v e : Int32) : Int32 × TB :=
  if inR v (nI 1) (nI 60000) = false ∨ inR e (nI 1) (nI 1000000) = false then (-3, T)
  else if hN = 0 ∨ T 3 0 = nI 16 ∨ 64 < n + hN ∨ hbA T n v hN = true then (-4, T)
  else (nI Z, (pyhA (secT T Z (ix (T 23 (hN - 1)))) n Z v (endE T e (hN - 1)) hN).1)
def paysAll (T : TB) (n Z hN : Nat) (v e : Int32) : Int32 × TB := payT0 (up T 20 0 (nI 0)) n Z hN v e
def accountT (T : TB) (p : Int32) : Int32 := if isPT p = false then -1 else T 0 (ix p)
def toldV (T : TB) (c n w : Nat) : Int32 := match w with
  | 0 => T 9 c
  | 1 => T 8 c
  | 2 => T 7 c
  | 3 => T 6 c
  | 4 => if T 9 c = nI 3 then -1 else nwT T c n
  | 5 => T 10 c
  | 6 => if T 9 c = nI 2 then T 11 c else nI 0
  | 7 => T 12 c
  | 8 => if 0 < T 13 c then T 15 c else -1
  | 9 => if 0 < T 13 c then T 14 c else nI 0
  | 10 => if 0 < T 13 c then T 17 c else nI 0
  | 11 => T 13 c
  | _ => -1
def swI (w : Int32) (N : Nat) (f : Nat → Int32) : Int32 := if w < 0 ∨ nI N ≤ w then -1 else f (ix w)
def toldT (T : TB) (n : Nat) (c w : Int32) : Int32 := if isCT T c = false then -1 else swI w 12 (toldV T (ix c) n)
def ofV (T : TB) (c S w : Nat) : Int32 := match w with
  | 0 => T 19 (35 * S + 0)
  | 1 => T 19 (35 * S + 1)
  | 2 => T 19 (35 * S + 2)
  | 3 => T 19 (35 * S + 3)
  | 4 => if cnt T c S = true then nI 1 else nI 0
  | 5 => wholeT T S
  | 6 => T 19 (35 * S + 33)
  | 7 => T 19 (35 * S + 34)
  | 8 => T 19 (35 * S + 31)
  | 9 => T 19 (35 * S + 32)
  | _ => -1
def ofT (T : TB) (s w : Int32) : Int32 := if isST T s = false then -1 else swI w 10 (ofV T (chOf T s) (ix s))
def shareT (T : TB) (s p w : Int32) : Int32 := if isOfT T s p = false ∨ inR w (nI 0) (nI 1) = false then -1 else if w = 0 then T 19 (35 * ix s + 4 + ix p) else T 19 (35 * ix s + 10 + ix p)
def lockedT (T : TB) (s k w : Int32) : Int32 := if (isST T s = false ∨ isLT T (ix s) k = false) ∨ inR w (nI 0) (nI 4) = false then -1 else if w = 0 then lkT T (ix s) (ix k) 1 else if w = nI 1 then lkT T (ix s) (ix k) 2 else if w = nI 2 then lkT T (ix s) (ix k) 0 else lkT T (ix s) (ix k) (ix w)
def knowsT (T : TB) (z : Int32) : Int32 := if isZT T z = false then -1 else T 4 (ix z)
def countV (T : TB) (C w : Nat) : Int32 := match w with
  | 0 => T 5 0
  | 1 => T 18 0
  | 2 => T 3 0
  | 3 => T 2 0
  | 4 => T 20 0
  | 5 => T 1 0
  | 6 => sumT T C (accT T)
  | _ => -1
def countT (T : TB) (C : Nat) (w : Int32) : Int32 := swI w 7 (countV T C)
