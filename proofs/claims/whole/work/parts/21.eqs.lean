/-! what each call does, once its numbers are known -/
theorem ret2 {Γ : NM} {ow : Nat → Nat × Nat} {h : Hp} {T : TB} {nh : Nat} {f : Int32 × TB} {r : Int32} {T' : TB} (e : f = (r, T')) (hW : WD Γ ow h T T' nh) : r = f.1 ∧ WD Γ ow h T f.2 nh := by
  subst e
  exact ⟨rfl, hW⟩
theorem Iv.oOfP {T : TB} {s p : Int32} (h : isOfT T s p = true) : ∃ P, P < 6 ∧ p = nI P := by
  unfold isOfT at h
  rw [Bool.and_eq_true] at h
  exact mbT_nI h.2
theorem oZ {i : Nat} {T : TB} {C n Z hN : Nat} (H : Iv i T C n Z hN) {z : Int32} (h : isZT T z = true) : ∃ K, K < Z ∧ z = nI K := by
  unfold isZT at h
  rw [H.z3] at h
  have := H.Z16
  exact inR_lt (by omega) h
theorem inRp {v : Int32} {b : Nat} (hb : b < 2 ^ 31) (h : inR v (nI 1) (nI b) = true) : ∃ K, 0 < K ∧ K ≤ b ∧ v = nI K := by
  have h' := h
  simp only [inR, Bool.and_eq_true, decide_eq_true_eq] at h'
  obtain ⟨K, h1, h2⟩ := inR_nI (v := v) hb (by simp only [inR, Bool.and_eq_true, decide_eq_true_eq]; exact ⟨Int32.le_trans (by decide) h'.1, h'.2⟩)
  refine ⟨K, ?_, h1, h2⟩
  rcases Nat.eq_zero_or_pos K with e | e
  · rw [h2, e] at h'
    exact absurd h'.1 (by decide)
  · exact e
theorem ch_nI {T : TB} {S c : Nat} (hS : S < 64) (hc8 : c < 8) (hc0 : T 19 (35 * S + 0) = nI c) : chOf T (nI S) = c := by
  show ix (T 19 (35 * ix (nI S) + 0)) = c
  rw [ix_nI (by omega), hc0, ix_nI (by omega)]
theorem stateT_eq {T : TB} {n c : Nat} (hc8 : c < 8) (q : isCT T (nI c) = true) : stateT T n (nI c) = if T 9 c = nI 3 then (-2, T) else if T 18 0 = nI 64 then (-4, T) else (nI n, copT T c n (ix (nwT T c n))) := by
  unfold stateT
  rw [if_neg (by rw [q]; decide), ix_nI (by omega)]
theorem changeT_eq {T : TB} {S c F P : Nat} {v : Int32} (hS : S < 64) (hc8 : c < 8) (hc0 : T 19 (35 * S + 0) = nI c) (hF : F < 6) (hP : P < 6) (q1 : isOfT T (nI S) (nI F) = true) (q2 : isOfT T (nI S) (nI P) = true) : changeT T (nI S) (nI F) (nI P) v = if fxT T c S = true then (-2, T) else if inR v (nI 1) (nI 60000) = false then (-3, T) else if nI F = nI P ∨ frT T S F < v then (-4, T) else ((chgT T S F P v) 19 (35 * S + 4 + F), chgT T S F P v) := by
  unfold changeT
  rw [if_neg (by rw [q1, q2]; decide), ch_nI hS hc8 hc0, ix_nI (by omega), ix_nI (by omega), ix_nI (by omega)]
theorem lockT_eq {T : TB} {S c F P Z0 : Nat} {v e : Int32} (hS : S < 64) (hc8 : c < 8) (hc0 : T 19 (35 * S + 0) = nI c) (hF : F < 6) (hP : P < 6) (hZ : Z0 < 16) (q1 : isOfT T (nI S) (nI F) = true) (q2 : isOfT T (nI S) (nI P) = true) (q3 : isZT T (nI Z0) = true) : lockT T (nI S) (nI F) (nI P) v (nI Z0) e = if fxT T c S = true then (-2, T) else if inR v (nI 1) (nI 60000) = false ∨ inR e (nI 1) (nI 1000000) = false then (-3, T) else if nI F = nI P ∨ frT T S F < v ∨ epT T S = -1 then (-4, T) else (epT T S, lksT T S (ix (epT T S)) F P Z0 v e) := by
  unfold lockT
  rw [if_neg (by rw [q1, q2, q3]; decide), ch_nI hS hc8 hc0, ix_nI (by omega), ix_nI (by omega), ix_nI (by omega), ix_nI (by omega)]
theorem unlockT_eq {T : TB} {S c K : Nat} {op : Int32} (hS : S < 64) (hc8 : c < 8) (hc0 : T 19 (35 * S + 0) = nI c) (hK : K < 3) (q1 : isST T (nI S) = true) (q2 : isLT T S (nI K) = true) : unlockT T (nI S) (nI K) op = if fxT T c S = true then (-2, T) else (lkT T S K 0, ulkT T S K (ix (if op = 0 then lkT T S K 1 else lkT T S K 2))) := by
  unfold unlockT
  rw [if_neg (by rw [ix_nI (by omega), q1, q2]; decide), ch_nI hS hc8 hc0, ix_nI (by omega), ix_nI (by omega)]
theorem gameT_eq {T : TB} {S c F P : Nat} {v e : Int32} (hS : S < 64) (hc8 : c < 8) (hc0 : T 19 (35 * S + 0) = nI c) (hF : F < 6) (hP : P < 6) (q1 : isOfT T (nI S) (nI F) = true) (q2 : isOfT T (nI S) (nI P) = true) : gameT T (nI S) (nI F) (nI P) v e = if fxT T c S = true then (-2, T) else if inR v (nI 1) (nI 10000) = false ∨ inR e (nI 1) (nI 20) = false then (-3, T) else if nI F = nI P ∨ 0 < T 19 (35 * S + 31) ∨ frT T S F < v ∨ frT T S P < v then (-4, T) else (nI 2 * v, gamT T S F P v e) := by
  unfold gameT
  rw [if_neg (by rw [q1, q2]; decide), ch_nI hS hc8 hc0, ix_nI (by omega), ix_nI (by omega), ix_nI (by omega)]
theorem moveT_eq {T : TB} {S c : Nat} {t : Int32} (hS : S < 64) (hc8 : c < 8) (hc0 : T 19 (35 * S + 0) = nI c) (q1 : isST T (nI S) = true) : moveT T (nI S) t = if fxT T c S = true then (-2, T) else if inR t (nI 1) (nI 3) = false then (-3, T) else if T 19 (35 * S + 31) = 0 ∨ T 19 (35 * S + 32) < t then (-4, T) else (T 19 (35 * S + 32) - t, movT T S t) := by
  unfold moveT
  rw [if_neg (by rw [q1]; decide), ch_nI hS hc8 hc0, ix_nI (by omega)]
theorem outsT_eq {T : TB} {S c P : Nat} {v : Int32} (hS : S < 64) (hc8 : c < 8) (hc0 : T 19 (35 * S + 0) = nI c) (hP : P < 6) (q1 : isOfT T (nI S) (nI P) = true) : outsT T (nI S) (nI P) v = if fxT T c S = true then (-2, T) else if inR v (nI 0) (nI 60000) = false then (-3, T) else if T 19 (35 * S + 4 + P) < v then (-4, T) else (T 19 (35 * S + 10 + P), up T 19 (35 * S + 10 + P) v) := by
  unfold outsT
  rw [if_neg (by rw [q1]; decide), ch_nI hS hc8 hc0, ix_nI (by omega), ix_nI (by omega)]
theorem signT_eq {T : TB} {n S c P : Nat} (hS : S < 64) (hc8 : c < 8) (hc0 : T 19 (35 * S + 0) = nI c) (hP : P < 6) (q1 : isOfT T (nI S) (nI P) = true) : signT T n (nI S) (nI P) = if T 9 c = nI 3 then (-2, T) else if hasB (T 19 (35 * S + 2)) (nI P) = true then (-4, T) else (sizeT (T 19 (35 * S + 2) + shiT P), sgnT T c n S P) := by
  unfold signT
  rw [if_neg (by rw [q1]; decide), ch_nI hS hc8 hc0, ix_nI (by omega), ix_nI (by omega)]
theorem showT_eq {T : TB} {S c P : Nat} (hS : S < 64) (hc8 : c < 8) (hc0 : T 19 (35 * S + 0) = nI c) (hP : P < 6) (q1 : isOfT T (nI S) (nI P) = true) : showT T (nI S) (nI P) = if T 9 c = nI 3 then (-2, T) else if cnt T c S = false ∨ (T 9 c = nI 2 ∧ T 19 (35 * S + 1) ≤ T 19 (35 * ix (T 10 c) + 1)) then (-4, T) else ((showsT T c S) 11 c, showsT T c S) := by
  unfold showT
  rw [if_neg (by rw [q1]; decide), ch_nI hS hc8 hc0, ix_nI (by omega)]
theorem agreeT_eq {T : TB} {n S c P : Nat} (hS : S < 64) (hc8 : c < 8) (hc0 : T 19 (35 * S + 0) = nI c) (hP : P < 6) (q1 : isOfT T (nI S) (nI P) = true) : agreeT T n (nI S) (nI P) = if ¬ T 9 c = nI 1 then (-2, T) else if ¬ nwT T c n = nI S ∨ hasB (T 19 (35 * S + 3)) (nI P) = true then (-4, T) else (sizeT (T 19 (35 * S + 3) + shiT P), if T 19 (35 * S + 3) + shiT P = T 6 c then toT (agr0 T S P) c S else agr0 T S P) := by
  unfold agreeT
  rw [if_neg (by rw [q1]; decide), ch_nI hS hc8 hc0, ix_nI (by omega), ix_nI (by omega)]
theorem secretT_eq {T : TB} {Z P : Nat} (hP : P < 6) (q : isPT (nI P) = true) : secretT T Z (nI P) = if T 3 0 = nI 16 then (-4, T) else (nI Z, secT T Z P) := by
  unfold secretT
  rw [if_neg (by rw [q]; decide), ix_nI (by omega)]
theorem tellT_eq {T : TB} {K F P : Nat} (hK : K < 16) (hF : F < 6) (hP : P < 6) (q1 : isZT T (nI K) = true) (q2 : isPT (nI F) = true) (q3 : isPT (nI P) = true) : tellT T (nI K) (nI F) (nI P) = if hasB (T 4 K) (nI F) = false then (-4, T) else (if T 4 K ||| shiT P = T 4 K then nI 0 else nI 1, up T 4 K (T 4 K ||| shiT P)) := by
  unfold tellT
  rw [if_neg (by rw [q1, q2, q3]; decide), ix_nI (by omega), ix_nI (by omega)]
theorem claimT_eq {T : TB} {c K P : Nat} (hc8 : c < 8) (hK : K < 3) (hP : P < 6) (q1 : isCT T (nI c) = true) (q2 : inR (nI K) (nI 0) (nI 2) = true) (q3 : isPT (nI P) = true) : claimT T (nI c) (nI K) (nI P) = if ¬ T 9 c = nI 3 then (-2, T) else if canT T c (ix (T 10 c)) K P = true then (lkT T (ix (T 10 c)) K 0, clmT T c (ix (T 10 c)) K P) else (-4, T) := by
  unfold claimT
  rw [if_neg (by rw [q1, q2, q3]; decide), ix_nI (by omega), ix_nI (by omega), ix_nI (by omega)]
theorem stepT_eq {T : TB} {c P : Nat} {t : Int32} (hc8 : c < 8) (q1 : isCT T (nI c) = true) (q3 : isPT (nI P) = true) : stepT T (nI c) (nI P) t = if T 13 c = 0 then (-2, T) else if inR t (nI 1) (nI 3) = false then (-3, T) else if ¬ T 15 c = nI P ∨ T 14 c < t then (-4, T) else ((stpT T c t) 14 c, stpT T c t) := by
  unfold stepT
  rw [if_neg (by rw [q1, q3]; decide), ix_nI (by omega)]
theorem watchT_eq {T : TB} {P : Nat} {on : Int32} (hP : P < 6) (q : isPT (nI P) = true) : watchT T (nI P) on = (bitT (T 1 0) P, up T 1 0 (wchV (T 1 0) P on)) := by
  unfold watchT
  rw [if_neg (by rw [q]; decide), ix_nI (by omega)]
theorem hopT_eq {T : TB} {hN c : Nat} {f t : Int32} (hc8 : c < 8) (q1 : isCT T (nI c) = true) (q2 : mbT T c f = true) (q3 : mbT T c t = true) : hopT T hN (nI c) f t = if ¬ T 9 c = nI 1 then (-2, T) else if hN = 4 ∨ f = t ∨ agT T (nI c) hN = true ∨ (0 < hN ∧ ¬ T 23 (hN - 1) = f) then (-4, T) else (nI (hN + 1), hpT T hN (nI c) f t) := by
  unfold hopT
  rw [ix_nI (by omega), if_neg (by rw [q1, q2, q3]; decide)]
theorem swI_in {f : Nat → Int32} {j N : Nat} (hj : j < N) (hN : N < 2 ^ 31) : swI (nI j) N f = f j := by
  unfold swI
  rw [if_neg (by rintro (q | q); exact nI_pos (by omega) q; exact nI_ge hj hN q), ix_nI (by omega)]
theorem swI_lo {f : Nat → Int32} {w : Int32} {N : Nat} (h : w < 0) : swI w N f = -1 := if_pos (Or.inl h)
theorem swI_hi {f : Nat → Int32} {w : Int32} {N : Nat} (h : nI N ≤ w) : swI w N f = -1 := if_pos (Or.inr h)
theorem ts_lo {x : Int32} (h : x < 0) : x.toInt < 0 := Int32.lt_iff_toInt_lt.mp h
theorem ts_hi {x : Int32} (N : Nat) (hN : N < 2 ^ 31) (h : nI N ≤ x) : (N : Int) - 1 < x.toInt := by
  have := Int32.le_iff_toInt_le.mp h
  rw [nI_toInt hN] at this
  omega
theorem toldT_eq {T : TB} {n c : Nat} {w : Int32} (hc8 : c < 8) (q1 : isCT T (nI c) = true) : toldT T n (nI c) w = swI w 12 (toldV T c n) := by
  unfold toldT
  rw [if_neg (by rw [q1]; decide), ix_nI (by omega)]
theorem ofT_eq {T : TB} {S c : Nat} {w : Int32} (hS : S < 64) (hc8 : c < 8) (hc0 : T 19 (35 * S + 0) = nI c) (q1 : isST T (nI S) = true) : ofT T (nI S) w = swI w 10 (ofV T c S) := by
  unfold ofT
  rw [if_neg (by rw [q1]; decide), ch_nI hS hc8 hc0, ix_nI (by omega)]
theorem up_same (T : TB) (j i : Nat) : up T j i (T j i) = T := by
  funext a b
  unfold up
  split
  · rename_i h
    rw [h.1, h.2]
  · rfl
