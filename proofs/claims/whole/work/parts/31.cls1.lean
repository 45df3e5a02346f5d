/-! the class: leaves, over cells alone -/
theorem hup_hup (h : Hp) (a : Nat) (x y : AC) : hup (hup h a x) a y = hup h a y := by
  funext q
  unfold hup
  split <;> rfl
def ush (x : Int32) (k : Nat) : Int32 := (x.toUInt32 >>> ((nI k).toUInt32 &&& Int32.toUInt32 31)).toInt32
def bc1 (x : Int32) : Int32 := x - (ush x 1 &&& 1431655765)
def bc2 (x : Int32) : Int32 := (x &&& 858993459) + (ush x 2 &&& 858993459)
def bc3 (x : Int32) : Int32 := (x + ush x 4) &&& 252645135
def bc4 (x : Int32) : Int32 := x + ush x 8
def bc5 (x : Int32) : Int32 := x + ush x 16
def bcT (x : Int32) : Int32 := bc5 (bc4 (bc3 (bc2 (bc1 x)))) &&& nI 63
/-- a party is in a set, as the class asks -/
def inB (set p : Int32) : Bool := !decide (p < 0) && (decide (p < nI 6) && !decide (set &&& (nI 1 <<< (p &&& 31)) = 0))
theorem leS (p : Int32) (n : Nat) (hn : n + 1 < 2 ^ 31) : (p ≤ nI n) = ¬ (nI (n + 1) ≤ p) := by
  rw [Int32.le_iff_toInt_le, Int32.le_iff_toInt_le, nI_toInt (by omega), nI_toInt (by omega)]
  exact propext (by omega)
theorem le5 (p : Int32) : (p ≤ nI 5) = ¬ (nI 6 ≤ p) := leS p 5 (by decide)
theorem le2 (p : Int32) : (p ≤ nI 2) = ¬ (nI 3 ≤ p) := leS p 2 (by decide)
set_option maxHeartbeats 8000000 in
set_option maxRecDepth 20000 in
theorem c_isWithin {X : XG} {l : Launch} {h : Hp}  (v a b : Int32) : AM X l yX6_isWithin cX6_isWithin 3 (some .boolean) 0 0 0 [.int v, .int a, .int b] h (qi fun r h' => r = bI (inR v a b) ∧ h' = h) := by
  refine AM.of (by decide +kernel) (by simp [Value.category]) (Nat.le_of_ble_eq_true rfl) ?_
  show AW X l cX6_isWithin RX6 "isWithin" (some .boolean) 3 0 none _ 0 0 0 [some (.int v), some (.int a), some (.int b)] [] h
  refine aw_ilo 0 (pcn := 1) rfl dX6_isWithin_0 rfl rfl ?_
  refine aw_ilo 1 (pcn := 2) rfl dX6_isWithin_1 rfl rfl ?_
  refine aw_icmp_lt (t := 14) (pcn := 5) dX6_isWithin_2 rfl (by decide) (fun q1 => ?_) (fun q1 => ?_)
  · replace q1 := Int32.not_le.mpr q1
    refine aw_iconst (v := nI 0) (pcn := 15) dX6_isWithin_14 rfl (by decide) ?_
    exact aw_zret dX6_isWithin_15 rfl (by decide) ⟨_, rfl, ⟨by simp only [bI, inR, q1, Bool.false_eq_true, Bool.true_eq_false, reduceCtorEq, if_true, if_false, decide_true, decide_false, Bool.and_true, Bool.and_false, Bool.true_and, Bool.false_and, Bool.not_true, Bool.not_false, ← Int32.not_le, not_true_eq_false, not_false_eq_true, nI_0]; try exact nI_one, rfl⟩⟩
  · replace q1 := Int32.not_lt.mp q1
    refine aw_ilo 0 (pcn := 6) rfl dX6_isWithin_5 rfl rfl ?_
    refine aw_ilo 2 (pcn := 7) rfl dX6_isWithin_6 rfl rfl ?_
    refine aw_icmp_gt (t := 14) (pcn := 10) dX6_isWithin_7 rfl (by decide) (fun q2 => ?_) (fun q2 => ?_)
    · replace q2 := Int32.not_le.mpr q2
      refine aw_iconst (v := nI 0) (pcn := 15) dX6_isWithin_14 rfl (by decide) ?_
      exact aw_zret dX6_isWithin_15 rfl (by decide) ⟨_, rfl, ⟨by simp only [bI, inR, q1, q2, Bool.false_eq_true, Bool.true_eq_false, reduceCtorEq, if_true, if_false, decide_true, decide_false, Bool.and_true, Bool.and_false, Bool.true_and, Bool.false_and, Bool.not_true, Bool.not_false, ← Int32.not_le, not_true_eq_false, not_false_eq_true, nI_0]; try exact nI_one, rfl⟩⟩
    · replace q2 := Int32.not_lt.mp q2
      refine aw_iconst (v := nI 1) (pcn := 11) dX6_isWithin_10 rfl (by decide) ?_
      refine aw_goto (t := 15) dX6_isWithin_11 (by decide) ?_
      exact aw_zret dX6_isWithin_15 rfl (by decide) ⟨_, rfl, ⟨by simp only [bI, inR, q1, q2, Bool.false_eq_true, Bool.true_eq_false, reduceCtorEq, if_true, if_false, decide_true, decide_false, Bool.and_true, Bool.and_false, Bool.true_and, Bool.false_and, Bool.not_true, Bool.not_false, ← Int32.not_le, not_true_eq_false, not_false_eq_true, nI_0]; try exact nI_one, rfl⟩⟩

set_option maxHeartbeats 8000000 in
set_option maxRecDepth 20000 in
theorem c_isParty {X : XG} {l : Launch} {h : Hp}  (p : Int32) : AM X l yX6_isParty cX6_isParty 1 (some .boolean) 0 0 0 [.int p] h (qi fun r h' => r = bI (isPT p) ∧ h' = h) := by
  refine AM.of (by decide +kernel) (by simp [Value.category]) (Nat.le_of_ble_eq_true rfl) ?_
  show AW X l cX6_isParty RX6 "isParty" (some .boolean) 1 0 none _ 0 0 0 [some (.int p)] [] h
  refine aw_ilo 0 (pcn := 1) rfl dX6_isParty_0 rfl rfl ?_
  refine aw_if_lt (t := 14) (pcn := 4) dX6_isParty_1 rfl (by decide) (fun q1 => ?_) (fun q1 => ?_)
  · replace q1 := Int32.not_le.mpr q1
    refine aw_iconst (v := nI 0) (pcn := 15) dX6_isParty_14 rfl (by decide) ?_
    exact aw_zret dX6_isParty_15 rfl (by decide) ⟨_, rfl, ⟨by simp only [bI, isPT, inR, le5, q1, Bool.false_eq_true, Bool.true_eq_false, reduceCtorEq, if_true, if_false, decide_true, decide_false, Bool.and_true, Bool.and_false, Bool.true_and, Bool.false_and, Bool.not_true, Bool.not_false, ← Int32.not_le, not_true_eq_false, not_false_eq_true, nI_0]; try exact nI_one, rfl⟩⟩
  · replace q1 := Int32.not_lt.mp q1
    refine aw_ilo 0 (pcn := 5) rfl dX6_isParty_4 rfl rfl ?_
    refine aw_bipush (v := nI 6) (pcn := 7) dX6_isParty_5 rfl (by decide) ?_
    refine aw_icmp_ge (t := 14) (pcn := 10) dX6_isParty_7 rfl (by decide) (fun q2 => ?_) (fun q2 => ?_)
    · refine aw_iconst (v := nI 0) (pcn := 15) dX6_isParty_14 rfl (by decide) ?_
      exact aw_zret dX6_isParty_15 rfl (by decide) ⟨_, rfl, ⟨by simp only [bI, isPT, inR, le5, q1, q2, Bool.false_eq_true, Bool.true_eq_false, reduceCtorEq, if_true, if_false, decide_true, decide_false, Bool.and_true, Bool.and_false, Bool.true_and, Bool.false_and, Bool.not_true, Bool.not_false, ← Int32.not_le, not_true_eq_false, not_false_eq_true, nI_0]; try exact nI_one, rfl⟩⟩
    · refine aw_iconst (v := nI 1) (pcn := 11) dX6_isParty_10 rfl (by decide) ?_
      refine aw_goto (t := 15) dX6_isParty_11 (by decide) ?_
      exact aw_zret dX6_isParty_15 rfl (by decide) ⟨_, rfl, ⟨by simp only [bI, isPT, inR, le5, q1, q2, Bool.false_eq_true, Bool.true_eq_false, reduceCtorEq, if_true, if_false, decide_true, decide_false, Bool.and_true, Bool.and_false, Bool.true_and, Bool.false_and, Bool.not_true, Bool.not_false, ← Int32.not_le, not_true_eq_false, not_false_eq_true, nI_0]; try exact nI_one, rfl⟩⟩

set_option maxHeartbeats 8000000 in
set_option maxRecDepth 20000 in
theorem c_isPlace {X : XG} {l : Launch} {h : Hp}  (p : Int32) : AM X l yX6_isPlace cX6_isPlace 1 (some .boolean) 0 0 0 [.int p] h (qi fun r h' => r = bI (inR p (nI 0) (nI 2)) ∧ h' = h) := by
  refine AM.of (by decide +kernel) (by simp [Value.category]) (Nat.le_of_ble_eq_true rfl) ?_
  show AW X l cX6_isPlace RX6 "isPlace" (some .boolean) 1 0 none _ 0 0 0 [some (.int p)] [] h
  refine aw_ilo 0 (pcn := 1) rfl dX6_isPlace_0 rfl rfl ?_
  refine aw_if_lt (t := 13) (pcn := 4) dX6_isPlace_1 rfl (by decide) (fun q1 => ?_) (fun q1 => ?_)
  · replace q1 := Int32.not_le.mpr q1
    refine aw_iconst (v := nI 0) (pcn := 14) dX6_isPlace_13 rfl (by decide) ?_
    exact aw_zret dX6_isPlace_14 rfl (by decide) ⟨_, rfl, ⟨by simp only [bI, inR, le2, q1, Bool.false_eq_true, Bool.true_eq_false, reduceCtorEq, if_true, if_false, decide_true, decide_false, Bool.and_true, Bool.and_false, Bool.true_and, Bool.false_and, Bool.not_true, Bool.not_false, ← Int32.not_le, not_true_eq_false, not_false_eq_true, nI_0]; try exact nI_one, rfl⟩⟩
  · replace q1 := Int32.not_lt.mp q1
    refine aw_ilo 0 (pcn := 5) rfl dX6_isPlace_4 rfl rfl ?_
    refine aw_iconst (v := nI 3) (pcn := 6) dX6_isPlace_5 rfl (by decide) ?_
    refine aw_icmp_ge (t := 13) (pcn := 9) dX6_isPlace_6 rfl (by decide) (fun q2 => ?_) (fun q2 => ?_)
    · refine aw_iconst (v := nI 0) (pcn := 14) dX6_isPlace_13 rfl (by decide) ?_
      exact aw_zret dX6_isPlace_14 rfl (by decide) ⟨_, rfl, ⟨by simp only [bI, inR, le2, q1, q2, Bool.false_eq_true, Bool.true_eq_false, reduceCtorEq, if_true, if_false, decide_true, decide_false, Bool.and_true, Bool.and_false, Bool.true_and, Bool.false_and, Bool.not_true, Bool.not_false, ← Int32.not_le, not_true_eq_false, not_false_eq_true, nI_0]; try exact nI_one, rfl⟩⟩
    · refine aw_iconst (v := nI 1) (pcn := 10) dX6_isPlace_9 rfl (by decide) ?_
      refine aw_goto (t := 14) dX6_isPlace_10 (by decide) ?_
      exact aw_zret dX6_isPlace_14 rfl (by decide) ⟨_, rfl, ⟨by simp only [bI, inR, le2, q1, q2, Bool.false_eq_true, Bool.true_eq_false, reduceCtorEq, if_true, if_false, decide_true, decide_false, Bool.and_true, Bool.and_false, Bool.true_and, Bool.false_and, Bool.not_true, Bool.not_false, ← Int32.not_le, not_true_eq_false, not_false_eq_true, nI_0]; try exact nI_one, rfl⟩⟩

set_option maxHeartbeats 8000000 in
set_option maxRecDepth 20000 in
theorem c_isIn {X : XG} {l : Launch} {h : Hp}  (set p : Int32) : AM X l yX6_isIn cX6_isIn 2 (some .boolean) 0 0 0 [.int set, .int p] h (qi fun r h' => r = bI (inB set p) ∧ h' = h) := by
  refine AM.of (by decide +kernel) (by simp [Value.category]) (Nat.le_of_ble_eq_true rfl) ?_
  show AW X l cX6_isIn RX6 "isIn" (some .boolean) 2 0 none _ 0 0 0 [some (.int set), some (.int p)] [] h
  refine aw_ilo 1 (pcn := 1) rfl dX6_isIn_0 rfl rfl ?_
  refine aw_if_lt (t := 22) (pcn := 4) dX6_isIn_1 rfl (by decide) (fun q1 => ?_) (fun q1 => ?_)
  · replace q1 := Int32.not_le.mpr q1
    refine aw_iconst (v := nI 0) (pcn := 23) dX6_isIn_22 rfl (by decide) ?_
    exact aw_zret dX6_isIn_23 rfl (by decide) ⟨_, rfl, ⟨by simp only [bI, inB, q1, Bool.false_eq_true, Bool.true_eq_false, reduceCtorEq, if_true, if_false, decide_true, decide_false, Bool.and_true, Bool.and_false, Bool.true_and, Bool.false_and, Bool.not_true, Bool.not_false, ← Int32.not_le, not_true_eq_false, not_false_eq_true, nI_0]; try exact nI_one, rfl⟩⟩
  · replace q1 := Int32.not_lt.mp q1
    refine aw_ilo 1 (pcn := 5) rfl dX6_isIn_4 rfl rfl ?_
    refine aw_bipush (v := nI 6) (pcn := 7) dX6_isIn_5 rfl (by decide) ?_
    refine aw_icmp_ge (t := 22) (pcn := 10) dX6_isIn_7 rfl (by decide) (fun q2 => ?_) (fun q2 => ?_)
    · refine aw_iconst (v := nI 0) (pcn := 23) dX6_isIn_22 rfl (by decide) ?_
      exact aw_zret dX6_isIn_23 rfl (by decide) ⟨_, rfl, ⟨by simp only [bI, inB, q1, q2, Bool.false_eq_true, Bool.true_eq_false, reduceCtorEq, if_true, if_false, decide_true, decide_false, Bool.and_true, Bool.and_false, Bool.true_and, Bool.false_and, Bool.not_true, Bool.not_false, ← Int32.not_le, not_true_eq_false, not_false_eq_true, nI_0]; try exact nI_one, rfl⟩⟩
    · refine aw_ilo 0 (pcn := 11) rfl dX6_isIn_10 rfl rfl ?_
      refine aw_iconst (v := nI 1) (pcn := 12) dX6_isIn_11 rfl (by decide) ?_
      refine aw_ilo 1 (pcn := 13) rfl dX6_isIn_12 rfl rfl ?_
      refine aw_ishl (pcn := 14) dX6_isIn_13 rfl ?_
      refine aw_iand (pcn := 15) dX6_isIn_14 rfl ?_
      refine aw_if_eq (t := 22) (pcn := 18) dX6_isIn_15 rfl (by decide) (fun q3 => ?_) (fun q3 => ?_)
      · refine aw_iconst (v := nI 0) (pcn := 23) dX6_isIn_22 rfl (by decide) ?_
        exact aw_zret dX6_isIn_23 rfl (by decide) ⟨_, rfl, ⟨by simp only [bI, inB, q1, q2, q3, Bool.false_eq_true, Bool.true_eq_false, reduceCtorEq, if_true, if_false, decide_true, decide_false, Bool.and_true, Bool.and_false, Bool.true_and, Bool.false_and, Bool.not_true, Bool.not_false, ← Int32.not_le, not_true_eq_false, not_false_eq_true, nI_0]; try exact nI_one, rfl⟩⟩
      · refine aw_iconst (v := nI 1) (pcn := 19) dX6_isIn_18 rfl (by decide) ?_
        refine aw_goto (t := 23) dX6_isIn_19 (by decide) ?_
        exact aw_zret dX6_isIn_23 rfl (by decide) ⟨_, rfl, ⟨by simp only [bI, inB, q1, q2, q3, Bool.false_eq_true, Bool.true_eq_false, reduceCtorEq, if_true, if_false, decide_true, decide_false, Bool.and_true, Bool.and_false, Bool.true_and, Bool.false_and, Bool.not_true, Bool.not_false, ← Int32.not_le, not_true_eq_false, not_false_eq_true, nI_0]; try exact nI_one, rfl⟩⟩

set_option maxHeartbeats 8000000 in
set_option maxRecDepth 20000 in
theorem c_bitCount {X : XG} {l : Launch} {h : Hp}  (x : Int32) : AM X l yJ6_bitCount_0f7a4 cJ6_bitCount_0f7a4 1 (some .int) 0 0 0 [.int x] h (qi fun r h' => r = bcT x ∧ h' = h) := by
  refine AM.of (by decide +kernel) (by simp [Value.category]) (Nat.le_of_ble_eq_true rfl) ?_
  show AW X l cJ6_bitCount_0f7a4 RJ6 "bitCount" (some .int) 1 0 none _ 0 0 0 [some (.int x)] [] h
  refine aw_ilo 0 (pcn := 1) rfl dJ6_bitCount_0f7a4_0 rfl rfl ?_
  refine aw_ilo 0 (pcn := 2) rfl dJ6_bitCount_0f7a4_1 rfl rfl ?_
  refine aw_iconst (v := nI 1) (pcn := 3) dJ6_bitCount_0f7a4_2 rfl (by decide) ?_
  refine aw_iushr (pcn := 4) dJ6_bitCount_0f7a4_3 rfl rfl ?_
  refine aw_ldc_w (pcn := 7) ct_J6_265 dJ6_bitCount_0f7a4_4 rfl ?_
  rw [show (1431655765 : Int32) = nI 1431655765 by decide]
  refine aw_iand (pcn := 8) dJ6_bitCount_0f7a4_7 rfl ?_
  refine aw_isub (pcn := 9) dJ6_bitCount_0f7a4_8 rfl ?_
  refine aw_ist 0 (pcn := 10) rfl dJ6_bitCount_0f7a4_9 rfl (by decide) ?_
  dsimp only [List.set_cons_zero, List.set_cons_succ]
  refine aw_ilo 0 (pcn := 11) rfl dJ6_bitCount_0f7a4_10 rfl rfl ?_
  refine aw_ldc_w (pcn := 14) ct_J6_266 dJ6_bitCount_0f7a4_11 rfl ?_
  rw [show (858993459 : Int32) = nI 858993459 by decide]
  refine aw_iand (pcn := 15) dJ6_bitCount_0f7a4_14 rfl ?_
  refine aw_ilo 0 (pcn := 16) rfl dJ6_bitCount_0f7a4_15 rfl rfl ?_
  refine aw_iconst (v := nI 2) (pcn := 17) dJ6_bitCount_0f7a4_16 rfl (by decide) ?_
  refine aw_iushr (pcn := 18) dJ6_bitCount_0f7a4_17 rfl rfl ?_
  refine aw_ldc_w (pcn := 21) ct_J6_266 dJ6_bitCount_0f7a4_18 rfl ?_
  rw [show (858993459 : Int32) = nI 858993459 by decide]
  refine aw_iand (pcn := 22) dJ6_bitCount_0f7a4_21 rfl ?_
  refine aw_iadd (pcn := 23) dJ6_bitCount_0f7a4_22 rfl ?_
  refine aw_ist 0 (pcn := 24) rfl dJ6_bitCount_0f7a4_23 rfl (by decide) ?_
  dsimp only [List.set_cons_zero, List.set_cons_succ]
  refine aw_ilo 0 (pcn := 25) rfl dJ6_bitCount_0f7a4_24 rfl rfl ?_
  refine aw_ilo 0 (pcn := 26) rfl dJ6_bitCount_0f7a4_25 rfl rfl ?_
  refine aw_iconst (v := nI 4) (pcn := 27) dJ6_bitCount_0f7a4_26 rfl (by decide) ?_
  refine aw_iushr (pcn := 28) dJ6_bitCount_0f7a4_27 rfl rfl ?_
  refine aw_iadd (pcn := 29) dJ6_bitCount_0f7a4_28 rfl ?_
  refine aw_ldc_w (pcn := 32) ct_J6_267 dJ6_bitCount_0f7a4_29 rfl ?_
  rw [show (252645135 : Int32) = nI 252645135 by decide]
  refine aw_iand (pcn := 33) dJ6_bitCount_0f7a4_32 rfl ?_
  refine aw_ist 0 (pcn := 34) rfl dJ6_bitCount_0f7a4_33 rfl (by decide) ?_
  dsimp only [List.set_cons_zero, List.set_cons_succ]
  refine aw_ilo 0 (pcn := 35) rfl dJ6_bitCount_0f7a4_34 rfl rfl ?_
  refine aw_ilo 0 (pcn := 36) rfl dJ6_bitCount_0f7a4_35 rfl rfl ?_
  refine aw_bipush (v := nI 8) (pcn := 38) dJ6_bitCount_0f7a4_36 rfl (by decide) ?_
  refine aw_iushr (pcn := 39) dJ6_bitCount_0f7a4_38 rfl rfl ?_
  refine aw_iadd (pcn := 40) dJ6_bitCount_0f7a4_39 rfl ?_
  refine aw_ist 0 (pcn := 41) rfl dJ6_bitCount_0f7a4_40 rfl (by decide) ?_
  dsimp only [List.set_cons_zero, List.set_cons_succ]
  refine aw_ilo 0 (pcn := 42) rfl dJ6_bitCount_0f7a4_41 rfl rfl ?_
  refine aw_ilo 0 (pcn := 43) rfl dJ6_bitCount_0f7a4_42 rfl rfl ?_
  refine aw_bipush (v := nI 16) (pcn := 45) dJ6_bitCount_0f7a4_43 rfl (by decide) ?_
  refine aw_iushr (pcn := 46) dJ6_bitCount_0f7a4_45 rfl rfl ?_
  refine aw_iadd (pcn := 47) dJ6_bitCount_0f7a4_46 rfl ?_
  refine aw_ist 0 (pcn := 48) rfl dJ6_bitCount_0f7a4_47 rfl (by decide) ?_
  dsimp only [List.set_cons_zero, List.set_cons_succ]
  refine aw_ilo 0 (pcn := 49) rfl dJ6_bitCount_0f7a4_48 rfl rfl ?_
  refine aw_bipush (v := nI 63) (pcn := 51) dJ6_bitCount_0f7a4_49 rfl (by decide) ?_
  refine aw_iand (pcn := 52) dJ6_bitCount_0f7a4_51 rfl ?_
  exact aw_iret dJ6_bitCount_0f7a4_52 rfl ⟨_, rfl, ⟨rfl, rfl⟩⟩

theorem ix_of {p : Int32} {n : Nat} (hn : n < 2 ^ 31) (h0 : 0 ≤ p) (h1 : ¬ nI n ≤ p) : ∃ P, P < n ∧ p = nI P := by
  rcases pk_ix p hn with h | h | ⟨j, h2, h3⟩
  · exact absurd h (Int32.not_lt.mpr h0)
  · exact absurd h h1
  · exact ⟨j, h2, h3⟩
/-- a sum by its number, 0 outside -/
def sgT (f : Nat → Int32) (p : Int32) : Int32 := if p < 0 ∨ nI 6 ≤ p then nI 0 else f (ix p)
theorem sgT_nI {f : Nat → Int32} {P : Nat} (hP : P < 6) : sgT f (nI P) = f P := by
  unfold sgT
  rw [if_neg (by rintro (q | q); exact nI_pos (by omega) q; exact nI_ge hP (by decide) q), ix_nI (by omega)]
set_option maxHeartbeats 8000000 in
set_option maxRecDepth 20000 in
theorem c_get0 {X : XG} {l : Launch} {h : Hp}  {a b : Nat} {f : Nat → Int32} (h1 : h a = some (ob 5 [.ref b])) (h2 : h b = some (ia 6 f)) (p : Int32) : AM X l yX5_get cX5_get 2 (some .int) 0 0 0 [.ref a, .int p] h (qi fun r h' => r = sgT f p ∧ h' = h) := by
  refine AM.of (by decide +kernel) (by simp [Value.category]) (Nat.le_of_ble_eq_true rfl) ?_
  show AW X l cX5_get RX5 "get" (some .int) 2 0 none _ 0 0 0 [some (.ref a), some (.int p)] [] h
  refine aw_ilo 1 (pcn := 1) rfl dX5_get_0 rfl rfl ?_
  refine aw_if_lt (t := 22) (pcn := 4) dX5_get_1 rfl (by decide) (fun q1 => ?_) (fun q1 => ?_)
  · replace q1 := Int32.not_le.mpr q1
    refine aw_iconst (v := nI 0) (pcn := 23) dX5_get_22 rfl (by decide) ?_
    exact aw_iret dX5_get_23 rfl ⟨_, rfl, ⟨by first | (rw [sgT_nI hP]; done) | (unfold sgT; first | (rw [if_pos (Or.inr (by assumption))]; done) | (rw [if_pos (Or.inl (Int32.not_le.mp (by assumption)))])), rfl⟩⟩
  · replace q1 := Int32.not_lt.mp q1
    refine aw_ilo 1 (pcn := 5) rfl dX5_get_4 rfl rfl ?_
    refine aw_alo 0 (pcn := 6) rfl dX5_get_5 rfl rfl (rf_some _) ?_
    refine aw_getf (pcn := 9) fl_X5_9 dX5_get_6 rfl h1 rfl ?_
    refine aw_aleni (v := nI 6) (pcn := 10) dX5_get_9 rfl h2 (by decide) ?_
    refine aw_icmp_ge (t := 22) (pcn := 13) dX5_get_10 rfl (by decide) (fun q2 => ?_) (fun q2 => ?_)
    · refine aw_iconst (v := nI 0) (pcn := 23) dX5_get_22 rfl (by decide) ?_
      exact aw_iret dX5_get_23 rfl ⟨_, rfl, ⟨by first | (rw [sgT_nI hP]; done) | (unfold sgT; first | (rw [if_pos (Or.inr (by assumption))]; done) | (rw [if_pos (Or.inl (Int32.not_le.mp (by assumption)))])), rfl⟩⟩
    · obtain ⟨P, hP, rfl⟩ := ix_of (n := 6) (by decide) q1 q2
      refine aw_alo 0 (pcn := 14) rfl dX5_get_13 rfl rfl (rf_some _) ?_
      refine aw_getf (pcn := 17) fl_X5_9 dX5_get_14 rfl h1 rfl ?_
      refine aw_ilo 1 (pcn := 18) rfl dX5_get_17 rfl rfl ?_
      refine aw_ialdN (pcn := 19) (by decide) dX5_get_18 rfl h2 (show _ < 6 by omega) ?_
      refine aw_goto (t := 23) dX5_get_19 (by decide) ?_
      exact aw_iret dX5_get_23 rfl ⟨_, rfl, ⟨by first | (rw [sgT_nI hP]; done) | (unfold sgT; first | (rw [if_pos (Or.inr (by assumption))]; done) | (rw [if_pos (Or.inl (Int32.not_le.mp (by assumption)))])), rfl⟩⟩

set_option maxHeartbeats 8000000 in
set_option maxRecDepth 20000 in
theorem c_put0 {X : XG} {l : Launch} {h : Hp}  {a b : Nat} {f : Nat → Int32} (h1 : h a = some (ob 5 [.ref b])) (h2 : h b = some (ia 6 f)) {P : Nat} (hP : P < 6) (v : Int32) : AM X l yX5_put cX5_put 3 (none) 0 0 0 [.ref a, .int (nI P), .int v] h (qv fun h' => h' = hup h b (ia 6 (upd f P v))) := by
  refine AM.of (by decide +kernel) (by simp [Value.category]) (Nat.le_of_ble_eq_true rfl) ?_
  show AW X l cX5_put RX5 "put" (none) 3 0 none _ 0 0 0 [some (.ref a), some (.int (nI P)), some (.int v)] [] h
  refine aw_ilo 1 (pcn := 1) rfl dX5_put_0 rfl rfl ?_
  refine aw_if_lt (t := 20) (pcn := 4) dX5_put_1 rfl (by decide) (fun q1 => ?_) (fun q1 => ?_)
  · replace q1 := Int32.not_le.mpr q1
    exact aw_ret dX5_put_20 rfl ⟨rfl, absurd (nI_pos' (n := P) (by omega)) q1⟩
  · replace q1 := Int32.not_lt.mp q1
    refine aw_ilo 1 (pcn := 5) rfl dX5_put_4 rfl rfl ?_
    refine aw_alo 0 (pcn := 6) rfl dX5_put_5 rfl rfl (rf_some _) ?_
    refine aw_getf (pcn := 9) fl_X5_9 dX5_put_6 rfl h1 rfl ?_
    refine aw_aleni (v := nI 6) (pcn := 10) dX5_put_9 rfl h2 (by decide) ?_
    refine aw_icmp_ge (t := 20) (pcn := 13) dX5_put_10 rfl (by decide) (fun q2 => ?_) (fun q2 => ?_)
    · exact aw_ret dX5_put_20 rfl ⟨rfl, absurd q2 (nI_ge hP (by decide))⟩
    · refine aw_alo 0 (pcn := 14) rfl dX5_put_13 rfl rfl (rf_some _) ?_
      refine aw_getf (pcn := 17) fl_X5_9 dX5_put_14 rfl h1 rfl ?_
      refine aw_ilo 1 (pcn := 18) rfl dX5_put_17 rfl rfl ?_
      refine aw_ilo 2 (pcn := 19) rfl dX5_put_18 rfl rfl ?_
      refine aw_iastN (pcn := 20) (by decide) dX5_put_19 rfl h2 (show _ < 6 by omega) ?_
      exact aw_ret dX5_put_20 rfl ⟨rfl, rfl⟩

set_option maxHeartbeats 8000000 in
set_option maxRecDepth 20000 in
theorem c_add0 {X : XG} {l : Launch} {h : Hp}  {a b : Nat} {f : Nat → Int32} (h1 : h a = some (ob 5 [.ref b])) (h2 : h b = some (ia 6 f)) {P : Nat} (hP : P < 6) (v : Int32) : AM X l yX5_add cX5_add 3 (none) 0 0 0 [.ref a, .int (nI P), .int v] h (qv fun h' => h' = hup h b (ia 6 (upd f P (f P + v)))) := by
  refine AM.of (by decide +kernel) (by simp [Value.category]) (Nat.le_of_ble_eq_true rfl) ?_
  show AW X l cX5_add RX5 "add" (none) 3 0 none _ 0 0 0 [some (.ref a), some (.int (nI P)), some (.int v)] [] h
  refine aw_ilo 1 (pcn := 1) rfl dX5_add_0 rfl rfl ?_
  refine aw_if_lt (t := 23) (pcn := 4) dX5_add_1 rfl (by decide) (fun q1 => ?_) (fun q1 => ?_)
  · replace q1 := Int32.not_le.mpr q1
    exact aw_ret dX5_add_23 rfl ⟨rfl, absurd (nI_pos' (n := P) (by omega)) q1⟩
  · replace q1 := Int32.not_lt.mp q1
    refine aw_ilo 1 (pcn := 5) rfl dX5_add_4 rfl rfl ?_
    refine aw_alo 0 (pcn := 6) rfl dX5_add_5 rfl rfl (rf_some _) ?_
    refine aw_getf (pcn := 9) fl_X5_9 dX5_add_6 rfl h1 rfl ?_
    refine aw_aleni (v := nI 6) (pcn := 10) dX5_add_9 rfl h2 (by decide) ?_
    refine aw_icmp_ge (t := 23) (pcn := 13) dX5_add_10 rfl (by decide) (fun q2 => ?_) (fun q2 => ?_)
    · exact aw_ret dX5_add_23 rfl ⟨rfl, absurd q2 (nI_ge hP (by decide))⟩
    · refine aw_alo 0 (pcn := 14) rfl dX5_add_13 rfl rfl (rf_some _) ?_
      refine aw_getf (pcn := 17) fl_X5_9 dX5_add_14 rfl h1 rfl ?_
      refine aw_ilo 1 (pcn := 18) rfl dX5_add_17 rfl rfl ?_
      refine aw_dup2 (pcn := 19) dX5_add_18 rfl rfl rfl ?_
      refine aw_ialdN (pcn := 20) (by decide) dX5_add_19 rfl h2 (show _ < 6 by omega) ?_
      refine aw_ilo 2 (pcn := 21) rfl dX5_add_20 rfl rfl ?_
      refine aw_iadd (pcn := 22) dX5_add_21 rfl ?_
      refine aw_iastN (pcn := 23) (by decide) dX5_add_22 rfl h2 (show _ < 6 by omega) ?_
      exact aw_ret dX5_add_23 rfl ⟨rfl, rfl⟩

set_option maxHeartbeats 8000000 in
set_option maxRecDepth 20000 in
theorem c_total0 {X : XG} {l : Launch} {h : Hp}  {a b : Nat} {f : Nat → Int32} (h1 : h a = some (ob 5 [.ref b])) (h2 : h b = some (ia 6 f)) : AM X l yX5_total cX5_total 6 (some .int) 0 0 0 [.ref a] h (qi fun r h' => r = nI 0 + f 0 + f 1 + f 2 + f 3 + f 4 + f 5 ∧ h' = h) := by
  refine AM.of (by decide +kernel) (by simp [Value.category]) (Nat.le_of_ble_eq_true rfl) ?_
  show AW X l cX5_total RX5 "total" (some .int) 6 0 none _ 0 0 0 [some (.ref a), none, none, none, none, none] [] h
  refine aw_iconst (v := nI 0) (pcn := 1) dX5_total_0 rfl (by decide) ?_
  refine aw_ist 1 (pcn := 2) rfl dX5_total_1 rfl (by decide) ?_
  dsimp only [List.set_cons_zero, List.set_cons_succ]
  refine aw_alo 0 (pcn := 3) rfl dX5_total_2 rfl rfl (rf_some _) ?_
  refine aw_getf (pcn := 6) fl_X5_9 dX5_total_3 rfl h1 rfl ?_
  refine aw_ast 2 (pcn := 7) rfl dX5_total_6 rfl (by decide) (rf_some _) ?_
  dsimp only [List.set_cons_zero, List.set_cons_succ]
  refine aw_alo 2 (pcn := 8) rfl dX5_total_7 rfl rfl (rf_some _) ?_
  refine aw_aleni (v := nI 6) (pcn := 9) dX5_total_8 rfl h2 (by decide) ?_
  refine aw_ist 3 (pcn := 10) rfl dX5_total_9 rfl (by decide) ?_
  dsimp only [List.set_cons_zero, List.set_cons_succ]
  refine aw_iconst (v := nI 0) (pcn := 11) dX5_total_10 rfl (by decide) ?_
  refine aw_istore (pcn := 13) dX5_total_11 rfl (by decide) ?_
  dsimp only [List.set_cons_zero, List.set_cons_succ]
  refine aw_iload (pcn := 15) dX5_total_13 rfl rfl ?_
  refine aw_ilo 3 (pcn := 16) rfl dX5_total_15 rfl rfl ?_
  refine aw_icmp_ge (t := 36) (pcn := 19) dX5_total_16 rfl (by decide) (fun q1 => absurd q1 (by decide)) (fun q1 => ?_)
  refine aw_alo 2 (pcn := 20) rfl dX5_total_19 rfl rfl (rf_some _) ?_
  refine aw_iload (pcn := 22) dX5_total_20 rfl rfl ?_
  refine aw_ialdN (pcn := 23) (by decide) dX5_total_22 rfl h2 (show _ < 6 by omega) ?_
  refine aw_istore (pcn := 25) dX5_total_23 rfl (by decide) ?_
  dsimp only [List.set_cons_zero, List.set_cons_succ]
  refine aw_ilo 1 (pcn := 26) rfl dX5_total_25 rfl rfl ?_
  refine aw_iload (pcn := 28) dX5_total_26 rfl rfl ?_
  refine aw_iadd (pcn := 29) dX5_total_28 rfl ?_
  refine aw_ist 1 (pcn := 30) rfl dX5_total_29 rfl (by decide) ?_
  dsimp only [List.set_cons_zero, List.set_cons_succ]
  refine aw_iinc (v := nI 1) (pcn := 33) dX5_total_30 rfl (by decide) rfl (by decide) ?_
  dsimp only [List.set_cons_zero, List.set_cons_succ]
  refine aw_goto (t := 13) dX5_total_33 (by decide) ?_
  refine aw_iload (pcn := 15) dX5_total_13 rfl rfl ?_
  refine aw_ilo 3 (pcn := 16) rfl dX5_total_15 rfl rfl ?_
  refine aw_icmp_ge (t := 36) (pcn := 19) dX5_total_16 rfl (by decide) (fun q2 => absurd q2 (by decide)) (fun q2 => ?_)
  refine aw_alo 2 (pcn := 20) rfl dX5_total_19 rfl rfl (rf_some _) ?_
  refine aw_iload (pcn := 22) dX5_total_20 rfl rfl ?_
  refine aw_ialdN (pcn := 23) (by decide) dX5_total_22 rfl h2 (show _ < 6 by omega) ?_
  refine aw_istore (pcn := 25) dX5_total_23 rfl (by decide) ?_
  dsimp only [List.set_cons_zero, List.set_cons_succ]
  refine aw_ilo 1 (pcn := 26) rfl dX5_total_25 rfl rfl ?_
  refine aw_iload (pcn := 28) dX5_total_26 rfl rfl ?_
  refine aw_iadd (pcn := 29) dX5_total_28 rfl ?_
  refine aw_ist 1 (pcn := 30) rfl dX5_total_29 rfl (by decide) ?_
  dsimp only [List.set_cons_zero, List.set_cons_succ]
  refine aw_iinc (v := nI 2) (pcn := 33) dX5_total_30 rfl (by decide) rfl (by decide) ?_
  dsimp only [List.set_cons_zero, List.set_cons_succ]
  refine aw_goto (t := 13) dX5_total_33 (by decide) ?_
  refine aw_iload (pcn := 15) dX5_total_13 rfl rfl ?_
  refine aw_ilo 3 (pcn := 16) rfl dX5_total_15 rfl rfl ?_
  refine aw_icmp_ge (t := 36) (pcn := 19) dX5_total_16 rfl (by decide) (fun q3 => absurd q3 (by decide)) (fun q3 => ?_)
  refine aw_alo 2 (pcn := 20) rfl dX5_total_19 rfl rfl (rf_some _) ?_
  refine aw_iload (pcn := 22) dX5_total_20 rfl rfl ?_
  refine aw_ialdN (pcn := 23) (by decide) dX5_total_22 rfl h2 (show _ < 6 by omega) ?_
  refine aw_istore (pcn := 25) dX5_total_23 rfl (by decide) ?_
  dsimp only [List.set_cons_zero, List.set_cons_succ]
  refine aw_ilo 1 (pcn := 26) rfl dX5_total_25 rfl rfl ?_
  refine aw_iload (pcn := 28) dX5_total_26 rfl rfl ?_
  refine aw_iadd (pcn := 29) dX5_total_28 rfl ?_
  refine aw_ist 1 (pcn := 30) rfl dX5_total_29 rfl (by decide) ?_
  dsimp only [List.set_cons_zero, List.set_cons_succ]
  refine aw_iinc (v := nI 3) (pcn := 33) dX5_total_30 rfl (by decide) rfl (by decide) ?_
  dsimp only [List.set_cons_zero, List.set_cons_succ]
  refine aw_goto (t := 13) dX5_total_33 (by decide) ?_
  refine aw_iload (pcn := 15) dX5_total_13 rfl rfl ?_
  refine aw_ilo 3 (pcn := 16) rfl dX5_total_15 rfl rfl ?_
  refine aw_icmp_ge (t := 36) (pcn := 19) dX5_total_16 rfl (by decide) (fun q4 => absurd q4 (by decide)) (fun q4 => ?_)
  refine aw_alo 2 (pcn := 20) rfl dX5_total_19 rfl rfl (rf_some _) ?_
  refine aw_iload (pcn := 22) dX5_total_20 rfl rfl ?_
  refine aw_ialdN (pcn := 23) (by decide) dX5_total_22 rfl h2 (show _ < 6 by omega) ?_
  refine aw_istore (pcn := 25) dX5_total_23 rfl (by decide) ?_
  dsimp only [List.set_cons_zero, List.set_cons_succ]
  refine aw_ilo 1 (pcn := 26) rfl dX5_total_25 rfl rfl ?_
  refine aw_iload (pcn := 28) dX5_total_26 rfl rfl ?_
  refine aw_iadd (pcn := 29) dX5_total_28 rfl ?_
  refine aw_ist 1 (pcn := 30) rfl dX5_total_29 rfl (by decide) ?_
  dsimp only [List.set_cons_zero, List.set_cons_succ]
  refine aw_iinc (v := nI 4) (pcn := 33) dX5_total_30 rfl (by decide) rfl (by decide) ?_
  dsimp only [List.set_cons_zero, List.set_cons_succ]
  refine aw_goto (t := 13) dX5_total_33 (by decide) ?_
  refine aw_iload (pcn := 15) dX5_total_13 rfl rfl ?_
  refine aw_ilo 3 (pcn := 16) rfl dX5_total_15 rfl rfl ?_
  refine aw_icmp_ge (t := 36) (pcn := 19) dX5_total_16 rfl (by decide) (fun q5 => absurd q5 (by decide)) (fun q5 => ?_)
  refine aw_alo 2 (pcn := 20) rfl dX5_total_19 rfl rfl (rf_some _) ?_
  refine aw_iload (pcn := 22) dX5_total_20 rfl rfl ?_
  refine aw_ialdN (pcn := 23) (by decide) dX5_total_22 rfl h2 (show _ < 6 by omega) ?_
  refine aw_istore (pcn := 25) dX5_total_23 rfl (by decide) ?_
  dsimp only [List.set_cons_zero, List.set_cons_succ]
  refine aw_ilo 1 (pcn := 26) rfl dX5_total_25 rfl rfl ?_
  refine aw_iload (pcn := 28) dX5_total_26 rfl rfl ?_
  refine aw_iadd (pcn := 29) dX5_total_28 rfl ?_
  refine aw_ist 1 (pcn := 30) rfl dX5_total_29 rfl (by decide) ?_
  dsimp only [List.set_cons_zero, List.set_cons_succ]
  refine aw_iinc (v := nI 5) (pcn := 33) dX5_total_30 rfl (by decide) rfl (by decide) ?_
  dsimp only [List.set_cons_zero, List.set_cons_succ]
  refine aw_goto (t := 13) dX5_total_33 (by decide) ?_
  refine aw_iload (pcn := 15) dX5_total_13 rfl rfl ?_
  refine aw_ilo 3 (pcn := 16) rfl dX5_total_15 rfl rfl ?_
  refine aw_icmp_ge (t := 36) (pcn := 19) dX5_total_16 rfl (by decide) (fun q6 => absurd q6 (by decide)) (fun q6 => ?_)
  refine aw_alo 2 (pcn := 20) rfl dX5_total_19 rfl rfl (rf_some _) ?_
  refine aw_iload (pcn := 22) dX5_total_20 rfl rfl ?_
  refine aw_ialdN (pcn := 23) (by decide) dX5_total_22 rfl h2 (show _ < 6 by omega) ?_
  refine aw_istore (pcn := 25) dX5_total_23 rfl (by decide) ?_
  dsimp only [List.set_cons_zero, List.set_cons_succ]
  refine aw_ilo 1 (pcn := 26) rfl dX5_total_25 rfl rfl ?_
  refine aw_iload (pcn := 28) dX5_total_26 rfl rfl ?_
  refine aw_iadd (pcn := 29) dX5_total_28 rfl ?_
  refine aw_ist 1 (pcn := 30) rfl dX5_total_29 rfl (by decide) ?_
  dsimp only [List.set_cons_zero, List.set_cons_succ]
  refine aw_iinc (v := nI 6) (pcn := 33) dX5_total_30 rfl (by decide) rfl (by decide) ?_
  dsimp only [List.set_cons_zero, List.set_cons_succ]
  refine aw_goto (t := 13) dX5_total_33 (by decide) ?_
  refine aw_iload (pcn := 15) dX5_total_13 rfl rfl ?_
  refine aw_ilo 3 (pcn := 16) rfl dX5_total_15 rfl rfl ?_
  refine aw_icmp_ge (t := 36) (pcn := 19) dX5_total_16 rfl (by decide) (fun q7 => ?_) (fun q7 => absurd (by decide) q7)
  refine aw_ilo 1 (pcn := 37) rfl dX5_total_36 rfl rfl ?_
  exact aw_iret dX5_total_37 rfl ⟨_, rfl, ⟨rfl, rfl⟩⟩

set_option maxHeartbeats 8000000 in
set_option maxRecDepth 20000 in
theorem c_Game {X : XG} {l : Launch} {h : Hp}  {a : Nat} {w0 w1 w2 w3 : Value} (ha : h a = some (ob 1 [w0, w1, w2, w3])) (x0 x1 x2 x3 : Int32) : AM X l yX1_init cX1_init 5 (none) 1 0 0 [.ref a, .int x0, .int x1, .int x2, .int x3] h (qv fun h' => h' = hup h a (ob 1 [.int x0, .int x1, .int x2, .int x3])) := by
  refine AM.of (by decide +kernel) (by simp [Value.category]) (Nat.le_of_ble_eq_true rfl) ?_
  show AW X l cX1_init RX1 "<init>" (none) 5 1 none _ 0 0 0 [some (.ref a), some (.int x0), some (.int x1), some (.int x2), some (.int x3)] [] h
  refine aw_alo 0 (pcn := 1) rfl dX1_init_0 rfl rfl (rf_some _) ?_
  refine aw_obj (pcn := 4) ml_X1_1 (by decide) (by decide) dX1_init_1 rfl ?_
  refine aw_alo 0 (pcn := 5) rfl dX1_init_4 rfl rfl (rf_some _) ?_
  refine aw_ilo 1 (pcn := 6) rfl dX1_init_5 rfl rfl ?_
  refine aw_putF (pcn := 9) ff_X1_7 rfl dX1_init_6 rfl ha (by exact Nat.le_of_ble_eq_true rfl) (VF.i _) ?_
  dsimp only [List.set_cons_zero, List.set_cons_succ]
  refine aw_alo 0 (pcn := 10) rfl dX1_init_9 rfl rfl (rf_some _) ?_
  refine aw_ilo 2 (pcn := 11) rfl dX1_init_10 rfl rfl ?_
  refine aw_putF (pcn := 14) ff_X1_13 rfl dX1_init_11 rfl (hup_s _ _ _) (by exact Nat.le_of_ble_eq_true rfl) (VF.i _) ?_
  rw [hup_hup]
  dsimp only [List.set_cons_zero, List.set_cons_succ]
  refine aw_alo 0 (pcn := 15) rfl dX1_init_14 rfl rfl (rf_some _) ?_
  refine aw_ilo 3 (pcn := 16) rfl dX1_init_15 rfl rfl ?_
  refine aw_putF (pcn := 19) ff_X1_16 rfl dX1_init_16 rfl (hup_s _ _ _) (by exact Nat.le_of_ble_eq_true rfl) (VF.i _) ?_
  rw [hup_hup]
  dsimp only [List.set_cons_zero, List.set_cons_succ]
  refine aw_alo 0 (pcn := 20) rfl dX1_init_19 rfl rfl (rf_some _) ?_
  refine aw_iload (pcn := 22) dX1_init_20 rfl rfl ?_
  refine aw_putF (pcn := 25) ff_X1_19 rfl dX1_init_22 rfl (hup_s _ _ _) (by exact Nat.le_of_ble_eq_true rfl) (VF.i _) ?_
  rw [hup_hup]
  dsimp only [List.set_cons_zero, List.set_cons_succ]
  exact aw_ret dX1_init_25 rfl ⟨rfl, rfl⟩

set_option maxHeartbeats 8000000 in
set_option maxRecDepth 20000 in
theorem c_Lock {X : XG} {l : Launch} {h : Hp}  {a : Nat} {w0 w1 w2 w3 w4 : Value} (ha : h a = some (ob 3 [w0, w1, w2, w3, w4])) (x0 x1 x2 x3 x4 : Int32) : AM X l yX3_init cX3_init 6 (none) 1 0 0 [.ref a, .int x0, .int x1, .int x2, .int x3, .int x4] h (qv fun h' => h' = hup h a (ob 3 [.int x0, .int x1, .int x2, .int x3, .int x4])) := by
  refine AM.of (by decide +kernel) (by simp [Value.category]) (Nat.le_of_ble_eq_true rfl) ?_
  show AW X l cX3_init RX3 "<init>" (none) 6 1 none _ 0 0 0 [some (.ref a), some (.int x0), some (.int x1), some (.int x2), some (.int x3), some (.int x4)] [] h
  refine aw_alo 0 (pcn := 1) rfl dX3_init_0 rfl rfl (rf_some _) ?_
  refine aw_obj (pcn := 4) ml_X3_1 (by decide) (by decide) dX3_init_1 rfl ?_
  refine aw_alo 0 (pcn := 5) rfl dX3_init_4 rfl rfl (rf_some _) ?_
  refine aw_ilo 1 (pcn := 6) rfl dX3_init_5 rfl rfl ?_
  refine aw_putF (pcn := 9) ff_X3_7 rfl dX3_init_6 rfl ha (by exact Nat.le_of_ble_eq_true rfl) (VF.i _) ?_
  dsimp only [List.set_cons_zero, List.set_cons_succ]
  refine aw_alo 0 (pcn := 10) rfl dX3_init_9 rfl rfl (rf_some _) ?_
  refine aw_ilo 2 (pcn := 11) rfl dX3_init_10 rfl rfl ?_
  refine aw_putF (pcn := 14) ff_X3_13 rfl dX3_init_11 rfl (hup_s _ _ _) (by exact Nat.le_of_ble_eq_true rfl) (VF.i _) ?_
  rw [hup_hup]
  dsimp only [List.set_cons_zero, List.set_cons_succ]
  refine aw_alo 0 (pcn := 15) rfl dX3_init_14 rfl rfl (rf_some _) ?_
  refine aw_ilo 3 (pcn := 16) rfl dX3_init_15 rfl rfl ?_
  refine aw_putF (pcn := 19) ff_X3_16 rfl dX3_init_16 rfl (hup_s _ _ _) (by exact Nat.le_of_ble_eq_true rfl) (VF.i _) ?_
  rw [hup_hup]
  dsimp only [List.set_cons_zero, List.set_cons_succ]
  refine aw_alo 0 (pcn := 20) rfl dX3_init_19 rfl rfl (rf_some _) ?_
  refine aw_iload (pcn := 22) dX3_init_20 rfl rfl ?_
  refine aw_putF (pcn := 25) ff_X3_19 rfl dX3_init_22 rfl (hup_s _ _ _) (by exact Nat.le_of_ble_eq_true rfl) (VF.i _) ?_
  rw [hup_hup]
  dsimp only [List.set_cons_zero, List.set_cons_succ]
  refine aw_alo 0 (pcn := 26) rfl dX3_init_25 rfl rfl (rf_some _) ?_
  refine aw_iload (pcn := 28) dX3_init_26 rfl rfl ?_
  refine aw_putF (pcn := 31) ff_X3_22 rfl dX3_init_28 rfl (hup_s _ _ _) (by exact Nat.le_of_ble_eq_true rfl) (VF.i _) ?_
  rw [hup_hup]
  dsimp only [List.set_cons_zero, List.set_cons_succ]
  exact aw_ret dX3_init_31 rfl ⟨rfl, rfl⟩

set_option maxHeartbeats 8000000 in
set_option maxRecDepth 20000 in
theorem c_Hop {X : XG} {l : Launch} {h : Hp}  {a c : Nat} {w0 w1 w2 : Value} (ha : h a = some (ob 2 [w0, w1, w2])) (x1 x2 : Int32) : AM X l yX2_init cX2_init 4 (none) 1 0 0 [.ref a, .ref c, .int x1, .int x2] h (qv fun h' => h' = hup h a (ob 2 [.ref c, .int x1, .int x2])) := by
  refine AM.of (by decide +kernel) (by simp [Value.category]) (Nat.le_of_ble_eq_true rfl) ?_
  show AW X l cX2_init RX2 "<init>" (none) 4 1 none _ 0 0 0 [some (.ref a), some (.ref c), some (.int x1), some (.int x2)] [] h
  refine aw_alo 0 (pcn := 1) rfl dX2_init_0 rfl rfl (rf_some _) ?_
  refine aw_obj (pcn := 4) ml_X2_3 (by decide) (by decide) dX2_init_1 rfl ?_
  refine aw_alo 0 (pcn := 5) rfl dX2_init_4 rfl rfl (rf_some _) ?_
  refine aw_alo 1 (pcn := 6) rfl dX2_init_5 rfl rfl (rf_some _) ?_
  refine aw_putF (pcn := 9) ff_X2_9 rfl dX2_init_6 rfl ha (by exact Nat.le_of_ble_eq_true rfl) (VF.o _ (some _)) ?_
  dsimp only [List.set_cons_zero, List.set_cons_succ]
  refine aw_alo 0 (pcn := 10) rfl dX2_init_9 rfl rfl (rf_some _) ?_
  refine aw_ilo 2 (pcn := 11) rfl dX2_init_10 rfl rfl ?_
  refine aw_putF (pcn := 14) ff_X2_15 rfl dX2_init_11 rfl (hup_s _ _ _) (by exact Nat.le_of_ble_eq_true rfl) (VF.i _) ?_
  rw [hup_hup]
  dsimp only [List.set_cons_zero, List.set_cons_succ]
  refine aw_alo 0 (pcn := 15) rfl dX2_init_14 rfl rfl (rf_some _) ?_
  refine aw_ilo 3 (pcn := 16) rfl dX2_init_15 rfl rfl ?_
  refine aw_putF (pcn := 19) ff_X2_19 rfl dX2_init_16 rfl (hup_s _ _ _) (by exact Nat.le_of_ble_eq_true rfl) (VF.i _) ?_
  rw [hup_hup]
  dsimp only [List.set_cons_zero, List.set_cons_succ]
  exact aw_ret dX2_init_19 rfl ⟨rfl, rfl⟩

set_option maxHeartbeats 8000000 in
set_option maxRecDepth 20000 in
theorem c_Channel {X : XG} {l : Launch} {h : Hp}  {a : Nat} (ha : h a = some (ob 0 [.int 0, .int 0, .int 0, .int 0, .int 0, .int 0, .null, .null, .int 0, .int 0, .null, .int 0])) (x1 x2 x3 : Int32) : AM X l yX0_init cX0_init 4 (none) 1 0 0 [.ref a, .int x1, .int x2, .int x3] h (qv fun h' => h' = hup h a (ob 0 [.int x1, .int x2, .int x3, .int 0, .int (nI 1), .int 0, .null, .null, .int 0, .int 0, .null, .int 0])) := by
  refine AM.of (by decide +kernel) (by simp [Value.category]) (Nat.le_of_ble_eq_true rfl) ?_
  show AW X l cX0_init RX0 "<init>" (none) 4 1 none _ 0 0 0 [some (.ref a), some (.int x1), some (.int x2), some (.int x3)] [] h
  refine aw_alo 0 (pcn := 1) rfl dX0_init_0 rfl rfl (rf_some _) ?_
  refine aw_obj (pcn := 4) ml_X0_3 (by decide) (by decide) dX0_init_1 rfl ?_
  refine aw_alo 0 (pcn := 5) rfl dX0_init_4 rfl rfl (rf_some _) ?_
  refine aw_iconst (v := nI 1) (pcn := 6) dX0_init_5 rfl (by decide) ?_
  refine aw_putf (pcn := 9) fp_X0_9 dX0_init_6 rfl ha (by exact Nat.le_of_ble_eq_true rfl) (VF.i _) ?_
  dsimp only [List.set_cons_zero, List.set_cons_succ]
  refine aw_alo 0 (pcn := 10) rfl dX0_init_9 rfl rfl (rf_some _) ?_
  refine aw_ilo 1 (pcn := 11) rfl dX0_init_10 rfl rfl ?_
  refine aw_putF (pcn := 14) ff_X0_15 rfl dX0_init_11 rfl (hup_s _ _ _) (by exact Nat.le_of_ble_eq_true rfl) (VF.i _) ?_
  rw [hup_hup]
  dsimp only [List.set_cons_zero, List.set_cons_succ]
  refine aw_alo 0 (pcn := 15) rfl dX0_init_14 rfl rfl (rf_some _) ?_
  refine aw_ilo 2 (pcn := 16) rfl dX0_init_15 rfl rfl ?_
  refine aw_putF (pcn := 19) ff_X0_18 rfl dX0_init_16 rfl (hup_s _ _ _) (by exact Nat.le_of_ble_eq_true rfl) (VF.i _) ?_
  rw [hup_hup]
  dsimp only [List.set_cons_zero, List.set_cons_succ]
  refine aw_alo 0 (pcn := 20) rfl dX0_init_19 rfl rfl (rf_some _) ?_
  refine aw_ilo 3 (pcn := 21) rfl dX0_init_20 rfl rfl ?_
  refine aw_putF (pcn := 24) ff_X0_21 rfl dX0_init_21 rfl (hup_s _ _ _) (by exact Nat.le_of_ble_eq_true rfl) (VF.i _) ?_
  rw [hup_hup]
  dsimp only [List.set_cons_zero, List.set_cons_succ]
  exact aw_ret dX0_init_24 rfl ⟨rfl, rfl⟩

set_option maxHeartbeats 8000000 in
set_option maxRecDepth 20000 in
theorem c_Sums {X : XG} {l : Launch} {h : Hp}  {a : Nat} {w0 : Value} (ha : h a = some (ob 5 [w0])) : AM X l yX5_init cX5_init 1 (none) 1 1 6 [.ref a] h (qv fun h' => ∃ b, h b = none ∧ b ≠ a ∧ h' = hup (hup h b (ia 6 fun _ => 0)) a (ob 5 [.ref b])) := by
  refine AM.of (by decide +kernel) (by simp [Value.category]) (Nat.le_of_ble_eq_true rfl) ?_
  show AW X l cX5_init RX5 "<init>" (none) 1 1 none _ 1 6 0 [some (.ref a)] [] h
  refine aw_alo 0 (pcn := 1) rfl dX5_init_0 rfl rfl (rf_some _) ?_
  refine aw_obj (pcn := 4) ml_X5_3 (by decide) (by decide) dX5_init_1 rfl ?_
  refine aw_alo 0 (pcn := 5) rfl dX5_init_4 rfl rfl (rf_some _) ?_
  refine aw_bipush (v := nI 6) (pcn := 7) dX5_init_5 rfl (by decide) ?_
  refine aw_newi 6 (pcn := 9) (by decide) (by decide) (by decide) ac_int dX5_init_7 rfl (by decide) (by decide) (fun b hb => ?_)
  have ha' : hup h b (ia 6 fun _ => 0) a = some (ob 5 [w0]) := by
    rw [hup_n _ _ (fun e => by rw [e, hb] at ha; cases ha)]
    exact ha
  refine aw_putF (pcn := 12) ff_X5_9 rfl dX5_init_9 rfl ha' (by exact Nat.le_of_ble_eq_true rfl) (VF.a _ (some _)) ?_
  dsimp only [List.set_cons_zero, List.set_cons_succ]
  exact aw_ret dX5_init_12 rfl ⟨rfl, ⟨b, hb, (show b ≠ a from fun e => by rw [e, ha] at hb; cases hb), rfl⟩⟩

set_option maxHeartbeats 8000000 in
set_option maxRecDepth 20000 in
theorem c_after {X : XG} {l : Launch} {h : Hp}  {a : Nat} {tu ot sk hp : Int32} (ha : h a = some (ob 1 [.int tu, .int ot, .int sk, .int hp])) (t : Int32) : AM X l yX1_after cX1_after 2 (some (.object "StateChannels$Game")) 2 1 4 [.ref a, .int t] h (qr fun r h' => (hp ≤ t ∧ r = none ∧ h' = h) ∨ (¬ hp ≤ t ∧ ∃ b, h b = none ∧ r = some b ∧ h' = hup h b (ob 1 [.int ot, .int tu, .int sk, .int (hp - t)]))) := by
  refine AM.of (by decide +kernel) (by simp [Value.category]) (Nat.le_of_ble_eq_true rfl) ?_
  show AW X l cX1_after RX1 "after" (some (.object "StateChannels$Game")) 2 2 none _ 1 4 0 [some (.ref a), some (.int t)] [] h
  refine aw_alo 0 (pcn := 1) rfl dX1_after_0 rfl rfl (rf_some _) ?_
  refine aw_getf (pcn := 4) fl_X1_19 dX1_after_1 rfl ha rfl ?_
  refine aw_ilo 1 (pcn := 5) rfl dX1_after_4 rfl rfl ?_
  refine aw_icmp_gt (t := 12) (pcn := 8) dX1_after_5 rfl (by decide) (fun q1 => ?_) (fun q1 => ?_)
  · replace q1 := Int32.not_le.mpr q1
    refine aw_new 4 (pcn := 15) nw_X1_8 rfl dX1_after_12 rfl (by decide) (by decide) (fun b hb => ?_)
    have ha' : hup h b (ob 1 [.int 0, .int 0, .int 0, .int 0]) a = some (ob 1 [.int tu, .int ot, .int sk, .int hp]) := by
      rw [hup_n _ _ (fun e => by rw [e, hb] at ha; cases ha)]
      exact ha
    refine aw_dup (pcn := 16) dX1_after_15 rfl rfl ?_
    refine aw_alo 0 (pcn := 17) rfl dX1_after_16 rfl rfl (rf_some _) ?_
    refine aw_getf (pcn := 20) fl_X1_13 dX1_after_17 rfl ha' rfl ?_
    refine aw_alo 0 (pcn := 21) rfl dX1_after_20 rfl rfl (rf_some _) ?_
    refine aw_getf (pcn := 24) fl_X1_7 dX1_after_21 rfl ha' rfl ?_
    refine aw_alo 0 (pcn := 25) rfl dX1_after_24 rfl rfl (rf_some _) ?_
    refine aw_getf (pcn := 28) fl_X1_16 dX1_after_25 rfl ha' rfl ?_
    refine aw_alo 0 (pcn := 29) rfl dX1_after_28 rfl rfl (rf_some _) ?_
    refine aw_getf (pcn := 32) fl_X1_19 dX1_after_29 rfl ha' rfl ?_
    refine aw_ilo 1 (pcn := 33) rfl dX1_after_32 rfl rfl ?_
    refine aw_isub (pcn := 34) dX1_after_33 rfl ?_
    refine aw_Iv (rty := none) (pcn := 37) (c_Game (hup_s _ _ _) _ _ _ _) mf_X1_init mv_X1_init rfl ml_X1_22 rfl (by decide) (by decide) (by decide) (by exact Nat.le_of_ble_eq_true rfl) rfl dX1_after_34 rfl (fun h2 hq => ?_)
    obtain rfl := hq.symm
    exact aw_aret dX1_after_37 rfl (Or.inl ⟨_, rfl⟩) (rf_some _) ⟨_, rfl, Or.inr ⟨q1, b, hb, rfl, by rw [hup_hup]⟩⟩
  · replace q1 := Int32.not_lt.mp q1
    refine aw_null (pcn := 9) dX1_after_8 rfl ?_
    refine aw_goto (t := 37) dX1_after_9 (by decide) ?_
    exact aw_aret dX1_after_37 rfl (Or.inl ⟨_, rfl⟩) rf_none ⟨_, rfl, Or.inl ⟨q1, rfl, rfl⟩⟩
