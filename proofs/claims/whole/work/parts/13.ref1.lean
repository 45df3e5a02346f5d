/-! the reference's small methods -/
theorem bI_01 (b : Bool) : bI b = 0 ∨ bI b = 1 := by cases b <;> decide
def hasB (set p : Int32) : Bool := decide ((set >>> (p &&& 31)) &&& nI 1 = nI 1)
def bitT (set : Int32) (p : Nat) : Int32 := (set >>> (nI p &&& 31)) &&& nI 1
def sizeT (set : Int32) : Int32 := nI 0 + bitT set 0 + bitT set 1 + bitT set 2 + bitT set 3 + bitT set 4 + bitT set 5
def inR (v a b : Int32) : Bool := decide (a ≤ v) && decide (v ≤ b)
set_option maxHeartbeats 8000000 in
set_option maxRecDepth 20000 in
theorem r_isIn {X : XG} {l : Launch} {h : Hp}  (v a b : Int32) : AM X l yX7_isIn cX7_isIn 3 (some .boolean) 0 0 0 [.int v, .int a, .int b] h (qi fun r h' => r = bI (inR v a b) ∧ h' = h) := by
  refine AM.of (by decide +kernel) (by simp [Value.category]) (Nat.le_of_ble_eq_true rfl) ?_
  show AW X l cX7_isIn RX7 "isIn" (some .boolean) 3 0 none _ 0 0 0 [some (.int v), some (.int a), some (.int b)] [] h
  refine aw_ilo 0 (pcn := 1) rfl dX7_isIn_0 rfl rfl ?_
  refine aw_ilo 1 (pcn := 2) rfl dX7_isIn_1 rfl rfl ?_
  refine aw_icmp_lt (t := 14) (pcn := 5) dX7_isIn_2 rfl (by decide) (fun q1 => ?_) (fun q1 => ?_)
  · refine aw_iconst (v := nI 0) (pcn := 15) dX7_isIn_14 rfl (by decide) ?_
    exact aw_zret dX7_isIn_15 rfl (by decide) ⟨_, rfl, ⟨by grind [bI, inR, nI_one, nI_0], rfl⟩⟩
  · refine aw_ilo 0 (pcn := 6) rfl dX7_isIn_5 rfl rfl ?_
    refine aw_ilo 2 (pcn := 7) rfl dX7_isIn_6 rfl rfl ?_
    refine aw_icmp_gt (t := 14) (pcn := 10) dX7_isIn_7 rfl (by decide) (fun q2 => ?_) (fun q2 => ?_)
    · refine aw_iconst (v := nI 0) (pcn := 15) dX7_isIn_14 rfl (by decide) ?_
      exact aw_zret dX7_isIn_15 rfl (by decide) ⟨_, rfl, ⟨by grind [bI, inR, nI_one, nI_0], rfl⟩⟩
    · refine aw_iconst (v := nI 1) (pcn := 11) dX7_isIn_10 rfl (by decide) ?_
      refine aw_goto (t := 15) dX7_isIn_11 (by decide) ?_
      exact aw_zret dX7_isIn_15 rfl (by decide) ⟨_, rfl, ⟨by grind [bI, inR, nI_one, nI_0], rfl⟩⟩

set_option maxHeartbeats 8000000 in
set_option maxRecDepth 20000 in
theorem r_isParty {X : XG} {l : Launch} {h : Hp}  (p : Int32) : AM X l yX7_isParty cX7_isParty 1 (some .boolean) 1 0 0 [.int p] h (qi fun r h' => r = bI (inR p (nI 0) (nI 5)) ∧ h' = h) := by
  refine AM.of (by decide +kernel) (by simp [Value.category]) (Nat.le_of_ble_eq_true rfl) ?_
  show AW X l cX7_isParty RX7 "isParty" (some .boolean) 1 1 none _ 0 0 0 [some (.int p)] [] h
  refine aw_ilo 0 (pcn := 1) rfl dX7_isParty_0 rfl rfl ?_
  refine aw_iconst (v := nI 0) (pcn := 2) dX7_isParty_1 rfl (by decide) ?_
  refine aw_iconst (v := nI 5) (pcn := 3) dX7_isParty_2 rfl (by decide) ?_
  refine aw_Si (pcn := 6) (r_isIn _ _ _) mf_X7_isIn mv_X7_isIn ml_X7_64 rfl (by decide) (by decide) (by decide) (by exact Nat.le_of_ble_eq_true rfl) rfl dX7_isParty_3 rfl (fun r h2 hq => ?_)
  obtain ⟨rfl, hq⟩ := hq
  obtain rfl := hq.symm
  exact aw_zret dX7_isParty_6 rfl (bI_01 _) ⟨_, rfl, ⟨rfl, rfl⟩⟩

set_option maxHeartbeats 8000000 in
set_option maxRecDepth 20000 in
theorem r_has {X : XG} {l : Launch} {h : Hp}  (set p : Int32) : AM X l yX7_has cX7_has 2 (some .boolean) 0 0 0 [.int set, .int p] h (qi fun r h' => r = bI (hasB set p) ∧ h' = h) := by
  refine AM.of (by decide +kernel) (by simp [Value.category]) (Nat.le_of_ble_eq_true rfl) ?_
  show AW X l cX7_has RX7 "has" (some .boolean) 2 0 none _ 0 0 0 [some (.int set), some (.int p)] [] h
  refine aw_ilo 0 (pcn := 1) rfl dX7_has_0 rfl rfl ?_
  refine aw_ilo 1 (pcn := 2) rfl dX7_has_1 rfl rfl ?_
  refine aw_ishr (pcn := 3) dX7_has_2 rfl ?_
  refine aw_iconst (v := nI 1) (pcn := 4) dX7_has_3 rfl (by decide) ?_
  refine aw_iand (pcn := 5) dX7_has_4 rfl ?_
  refine aw_iconst (v := nI 1) (pcn := 6) dX7_has_5 rfl (by decide) ?_
  refine aw_icmp_ne (t := 13) (pcn := 9) dX7_has_6 rfl (by decide) (fun q1 => ?_) (fun q1 => ?_)
  · refine aw_iconst (v := nI 0) (pcn := 14) dX7_has_13 rfl (by decide) ?_
    exact aw_zret dX7_has_14 rfl (by decide) ⟨_, rfl, ⟨by simp_all [bI, hasB, nI_one, nI_0], rfl⟩⟩
  · refine aw_iconst (v := nI 1) (pcn := 10) dX7_has_9 rfl (by decide) ?_
    refine aw_goto (t := 14) dX7_has_10 (by decide) ?_
    exact aw_zret dX7_has_14 rfl (by decide) ⟨_, rfl, ⟨by simp_all [bI, hasB, nI_one, nI_0], rfl⟩⟩

set_option maxHeartbeats 8000000 in
set_option maxRecDepth 20000 in
theorem r_size {X : XG} {l : Launch} {h : Hp}  (set : Int32) : AM X l yX7_size cX7_size 3 (some .int) 0 0 0 [.int set] h (qi fun r h' => r = sizeT set ∧ h' = h) := by
  refine AM.of (by decide +kernel) (by simp [Value.category]) (Nat.le_of_ble_eq_true rfl) ?_
  show AW X l cX7_size RX7 "size" (some .int) 3 0 none _ 0 0 0 [some (.int set), none, none] [] h
  refine aw_iconst (v := nI 0) (pcn := 1) dX7_size_0 rfl (by decide) ?_
  refine aw_ist 1 (pcn := 2) rfl dX7_size_1 rfl (by decide) ?_
  dsimp only [List.set_cons_zero, List.set_cons_succ]
  refine aw_iconst (v := nI 0) (pcn := 3) dX7_size_2 rfl (by decide) ?_
  refine aw_ist 2 (pcn := 4) rfl dX7_size_3 rfl (by decide) ?_
  dsimp only [List.set_cons_zero, List.set_cons_succ]
  refine aw_ilo 2 (pcn := 5) rfl dX7_size_4 rfl rfl ?_
  refine aw_bipush (v := nI 6) (pcn := 7) dX7_size_5 rfl (by decide) ?_
  refine aw_icmp_ge (t := 24) (pcn := 10) dX7_size_7 rfl (by decide) (fun q1 => absurd q1 (by decide)) (fun q1 => ?_)
  refine aw_ilo 1 (pcn := 11) rfl dX7_size_10 rfl rfl ?_
  refine aw_ilo 0 (pcn := 12) rfl dX7_size_11 rfl rfl ?_
  refine aw_ilo 2 (pcn := 13) rfl dX7_size_12 rfl rfl ?_
  refine aw_ishr (pcn := 14) dX7_size_13 rfl ?_
  refine aw_iconst (v := nI 1) (pcn := 15) dX7_size_14 rfl (by decide) ?_
  refine aw_iand (pcn := 16) dX7_size_15 rfl ?_
  refine aw_iadd (pcn := 17) dX7_size_16 rfl ?_
  refine aw_ist 1 (pcn := 18) rfl dX7_size_17 rfl (by decide) ?_
  dsimp only [List.set_cons_zero, List.set_cons_succ]
  refine aw_iinc (v := nI 1) (pcn := 21) dX7_size_18 rfl (by decide) rfl (by decide) ?_
  dsimp only [List.set_cons_zero, List.set_cons_succ]
  refine aw_goto (t := 4) dX7_size_21 (by decide) ?_
  refine aw_ilo 2 (pcn := 5) rfl dX7_size_4 rfl rfl ?_
  refine aw_bipush (v := nI 6) (pcn := 7) dX7_size_5 rfl (by decide) ?_
  refine aw_icmp_ge (t := 24) (pcn := 10) dX7_size_7 rfl (by decide) (fun q2 => absurd q2 (by decide)) (fun q2 => ?_)
  refine aw_ilo 1 (pcn := 11) rfl dX7_size_10 rfl rfl ?_
  refine aw_ilo 0 (pcn := 12) rfl dX7_size_11 rfl rfl ?_
  refine aw_ilo 2 (pcn := 13) rfl dX7_size_12 rfl rfl ?_
  refine aw_ishr (pcn := 14) dX7_size_13 rfl ?_
  refine aw_iconst (v := nI 1) (pcn := 15) dX7_size_14 rfl (by decide) ?_
  refine aw_iand (pcn := 16) dX7_size_15 rfl ?_
  refine aw_iadd (pcn := 17) dX7_size_16 rfl ?_
  refine aw_ist 1 (pcn := 18) rfl dX7_size_17 rfl (by decide) ?_
  dsimp only [List.set_cons_zero, List.set_cons_succ]
  refine aw_iinc (v := nI 2) (pcn := 21) dX7_size_18 rfl (by decide) rfl (by decide) ?_
  dsimp only [List.set_cons_zero, List.set_cons_succ]
  refine aw_goto (t := 4) dX7_size_21 (by decide) ?_
  refine aw_ilo 2 (pcn := 5) rfl dX7_size_4 rfl rfl ?_
  refine aw_bipush (v := nI 6) (pcn := 7) dX7_size_5 rfl (by decide) ?_
  refine aw_icmp_ge (t := 24) (pcn := 10) dX7_size_7 rfl (by decide) (fun q3 => absurd q3 (by decide)) (fun q3 => ?_)
  refine aw_ilo 1 (pcn := 11) rfl dX7_size_10 rfl rfl ?_
  refine aw_ilo 0 (pcn := 12) rfl dX7_size_11 rfl rfl ?_
  refine aw_ilo 2 (pcn := 13) rfl dX7_size_12 rfl rfl ?_
  refine aw_ishr (pcn := 14) dX7_size_13 rfl ?_
  refine aw_iconst (v := nI 1) (pcn := 15) dX7_size_14 rfl (by decide) ?_
  refine aw_iand (pcn := 16) dX7_size_15 rfl ?_
  refine aw_iadd (pcn := 17) dX7_size_16 rfl ?_
  refine aw_ist 1 (pcn := 18) rfl dX7_size_17 rfl (by decide) ?_
  dsimp only [List.set_cons_zero, List.set_cons_succ]
  refine aw_iinc (v := nI 3) (pcn := 21) dX7_size_18 rfl (by decide) rfl (by decide) ?_
  dsimp only [List.set_cons_zero, List.set_cons_succ]
  refine aw_goto (t := 4) dX7_size_21 (by decide) ?_
  refine aw_ilo 2 (pcn := 5) rfl dX7_size_4 rfl rfl ?_
  refine aw_bipush (v := nI 6) (pcn := 7) dX7_size_5 rfl (by decide) ?_
  refine aw_icmp_ge (t := 24) (pcn := 10) dX7_size_7 rfl (by decide) (fun q4 => absurd q4 (by decide)) (fun q4 => ?_)
  refine aw_ilo 1 (pcn := 11) rfl dX7_size_10 rfl rfl ?_
  refine aw_ilo 0 (pcn := 12) rfl dX7_size_11 rfl rfl ?_
  refine aw_ilo 2 (pcn := 13) rfl dX7_size_12 rfl rfl ?_
  refine aw_ishr (pcn := 14) dX7_size_13 rfl ?_
  refine aw_iconst (v := nI 1) (pcn := 15) dX7_size_14 rfl (by decide) ?_
  refine aw_iand (pcn := 16) dX7_size_15 rfl ?_
  refine aw_iadd (pcn := 17) dX7_size_16 rfl ?_
  refine aw_ist 1 (pcn := 18) rfl dX7_size_17 rfl (by decide) ?_
  dsimp only [List.set_cons_zero, List.set_cons_succ]
  refine aw_iinc (v := nI 4) (pcn := 21) dX7_size_18 rfl (by decide) rfl (by decide) ?_
  dsimp only [List.set_cons_zero, List.set_cons_succ]
  refine aw_goto (t := 4) dX7_size_21 (by decide) ?_
  refine aw_ilo 2 (pcn := 5) rfl dX7_size_4 rfl rfl ?_
  refine aw_bipush (v := nI 6) (pcn := 7) dX7_size_5 rfl (by decide) ?_
  refine aw_icmp_ge (t := 24) (pcn := 10) dX7_size_7 rfl (by decide) (fun q5 => absurd q5 (by decide)) (fun q5 => ?_)
  refine aw_ilo 1 (pcn := 11) rfl dX7_size_10 rfl rfl ?_
  refine aw_ilo 0 (pcn := 12) rfl dX7_size_11 rfl rfl ?_
  refine aw_ilo 2 (pcn := 13) rfl dX7_size_12 rfl rfl ?_
  refine aw_ishr (pcn := 14) dX7_size_13 rfl ?_
  refine aw_iconst (v := nI 1) (pcn := 15) dX7_size_14 rfl (by decide) ?_
  refine aw_iand (pcn := 16) dX7_size_15 rfl ?_
  refine aw_iadd (pcn := 17) dX7_size_16 rfl ?_
  refine aw_ist 1 (pcn := 18) rfl dX7_size_17 rfl (by decide) ?_
  dsimp only [List.set_cons_zero, List.set_cons_succ]
  refine aw_iinc (v := nI 5) (pcn := 21) dX7_size_18 rfl (by decide) rfl (by decide) ?_
  dsimp only [List.set_cons_zero, List.set_cons_succ]
  refine aw_goto (t := 4) dX7_size_21 (by decide) ?_
  refine aw_ilo 2 (pcn := 5) rfl dX7_size_4 rfl rfl ?_
  refine aw_bipush (v := nI 6) (pcn := 7) dX7_size_5 rfl (by decide) ?_
  refine aw_icmp_ge (t := 24) (pcn := 10) dX7_size_7 rfl (by decide) (fun q6 => absurd q6 (by decide)) (fun q6 => ?_)
  refine aw_ilo 1 (pcn := 11) rfl dX7_size_10 rfl rfl ?_
  refine aw_ilo 0 (pcn := 12) rfl dX7_size_11 rfl rfl ?_
  refine aw_ilo 2 (pcn := 13) rfl dX7_size_12 rfl rfl ?_
  refine aw_ishr (pcn := 14) dX7_size_13 rfl ?_
  refine aw_iconst (v := nI 1) (pcn := 15) dX7_size_14 rfl (by decide) ?_
  refine aw_iand (pcn := 16) dX7_size_15 rfl ?_
  refine aw_iadd (pcn := 17) dX7_size_16 rfl ?_
  refine aw_ist 1 (pcn := 18) rfl dX7_size_17 rfl (by decide) ?_
  dsimp only [List.set_cons_zero, List.set_cons_succ]
  refine aw_iinc (v := nI 6) (pcn := 21) dX7_size_18 rfl (by decide) rfl (by decide) ?_
  dsimp only [List.set_cons_zero, List.set_cons_succ]
  refine aw_goto (t := 4) dX7_size_21 (by decide) ?_
  refine aw_ilo 2 (pcn := 5) rfl dX7_size_4 rfl rfl ?_
  refine aw_bipush (v := nI 6) (pcn := 7) dX7_size_5 rfl (by decide) ?_
  refine aw_icmp_ge (t := 24) (pcn := 10) dX7_size_7 rfl (by decide) (fun q7 => ?_) (fun q7 => absurd (by decide) q7)
  refine aw_ilo 1 (pcn := 25) rfl dX7_size_24 rfl rfl ?_
  exact aw_iret dX7_size_25 rfl ⟨_, rfl, ⟨rfl, rfl⟩⟩

set_option maxHeartbeats 8000000 in
set_option maxRecDepth 20000 in
theorem r_isChannel {X : XG} {l : Launch} {Γ : NM} {ow : Nat → Nat × Nat} {h : Hp} {T Tr : TB} {nh : Nat} (hW : WD Γ ow h T Tr nh) (c : Int32) : AM X l yX7_isChannel cX7_isChannel 2 (some .boolean) 1 0 0 [.ref (Γ 14 0), .int c] h (qi fun r h' => r = bI (inR c (nI 0) (Tr 5 0 - nI 1)) ∧ h' = h) := by
  refine AM.of (by decide +kernel) (by simp [Value.category]) (Nat.le_of_ble_eq_true rfl) ?_
  show AW X l cX7_isChannel RX7 "isChannel" (some .boolean) 2 1 none _ 0 0 0 [some (.ref (Γ 14 0)), some (.int c)] [] h
  refine aw_ilo 1 (pcn := 1) rfl dX7_isChannel_0 rfl rfl ?_
  refine aw_iconst (v := nI 0) (pcn := 2) dX7_isChannel_1 rfl (by decide) ?_
  refine aw_alo 0 (pcn := 3) rfl dX7_isChannel_2 rfl rfl (rf_some _) ?_
  refine aw_getf (pcn := 6) fl_X7_68 dX7_isChannel_3 rfl hW.mo rfl ?_
  refine aw_iconst (v := nI 1) (pcn := 7) dX7_isChannel_6 rfl (by decide) ?_
  refine aw_isub (pcn := 8) dX7_isChannel_7 rfl ?_
  refine aw_Si (pcn := 11) (r_isIn _ _ _) mf_X7_isIn mv_X7_isIn ml_X7_64 rfl (by decide) (by decide) (by decide) (by exact Nat.le_of_ble_eq_true rfl) rfl dX7_isChannel_8 rfl (fun r h2 hq => ?_)
  obtain ⟨rfl, hq⟩ := hq
  obtain rfl := hq.symm
  exact aw_zret dX7_isChannel_11 rfl (bI_01 _) ⟨_, rfl, ⟨rfl, rfl⟩⟩

set_option maxHeartbeats 8000000 in
set_option maxRecDepth 20000 in
theorem r_isState {X : XG} {l : Launch} {Γ : NM} {ow : Nat → Nat × Nat} {h : Hp} {T Tr : TB} {nh : Nat} (hW : WD Γ ow h T Tr nh) (c : Int32) : AM X l yX7_isState cX7_isState 2 (some .boolean) 1 0 0 [.ref (Γ 14 0), .int c] h (qi fun r h' => r = bI (inR c (nI 0) (Tr 18 0 - nI 1)) ∧ h' = h) := by
  refine AM.of (by decide +kernel) (by simp [Value.category]) (Nat.le_of_ble_eq_true rfl) ?_
  show AW X l cX7_isState RX7 "isState" (some .boolean) 2 1 none _ 0 0 0 [some (.ref (Γ 14 0)), some (.int c)] [] h
  refine aw_ilo 1 (pcn := 1) rfl dX7_isState_0 rfl rfl ?_
  refine aw_iconst (v := nI 0) (pcn := 2) dX7_isState_1 rfl (by decide) ?_
  refine aw_alo 0 (pcn := 3) rfl dX7_isState_2 rfl rfl (rf_some _) ?_
  refine aw_getf (pcn := 6) fl_X7_72 dX7_isState_3 rfl hW.mo rfl ?_
  refine aw_iconst (v := nI 1) (pcn := 7) dX7_isState_6 rfl (by decide) ?_
  refine aw_isub (pcn := 8) dX7_isState_7 rfl ?_
  refine aw_Si (pcn := 11) (r_isIn _ _ _) mf_X7_isIn mv_X7_isIn ml_X7_64 rfl (by decide) (by decide) (by decide) (by exact Nat.le_of_ble_eq_true rfl) rfl dX7_isState_8 rfl (fun r h2 hq => ?_)
  obtain ⟨rfl, hq⟩ := hq
  obtain rfl := hq.symm
  exact aw_zret dX7_isState_11 rfl (bI_01 _) ⟨_, rfl, ⟨rfl, rfl⟩⟩

set_option maxHeartbeats 8000000 in
set_option maxRecDepth 20000 in
theorem r_channelOf {X : XG} {l : Launch} {Γ : NM} {ow : Nat → Nat × Nat} {h : Hp} {T Tr : TB} {nh : Nat} (hW : WD Γ ow h T Tr nh) {S : Nat} (hS : S < 64) : AM X l yX7_channelOf cX7_channelOf 2 (some .int) 0 0 0 [.ref (Γ 14 0), .int (nI S)] h (qi fun r h' => r = Tr 19 (35 * S + 0) ∧ h' = h) := by
  refine AM.of (by decide +kernel) (by simp [Value.category]) (Nat.le_of_ble_eq_true rfl) ?_
  show AW X l cX7_channelOf RX7 "channelOf" (some .int) 2 0 none _ 0 0 0 [some (.ref (Γ 14 0)), some (.int (nI S))] [] h
  refine aw_alo 0 (pcn := 1) rfl dX7_channelOf_0 rfl rfl (rf_some _) ?_
  refine aw_getf (pcn := 4) fl_X7_52 dX7_channelOf_1 rfl hW.mo rfl ?_
  refine aw_bipush (v := nI 35) (pcn := 6) dX7_channelOf_4 rfl (by decide) ?_
  refine aw_ilo 1 (pcn := 7) rfl dX7_channelOf_6 rfl rfl ?_
  refine aw_imulN (pcn := 8) dX7_channelOf_7 rfl ?_
  refine aw_iconst (v := nI 0) (pcn := 9) dX7_channelOf_8 rfl (by decide) ?_
  refine aw_iaddN (pcn := 10) dX7_channelOf_9 rfl ?_
  refine aw_ialdM (j := 19) (pcn := 11) hW dX7_channelOf_10 rfl (show _ < 2240 by omega) ?_
  exact aw_iret dX7_channelOf_11 rfl ⟨_, rfl, ⟨rfl, rfl⟩⟩

set_option maxHeartbeats 8000000 in
set_option maxRecDepth 20000 in
theorem r_lockAt {X : XG} {l : Launch} {h : Hp}  (S K : Nat) : AM X l yX7_lockAt cX7_lockAt 2 (some .int) 0 0 0 [.int (nI S), .int (nI K)] h (qi fun r h' => r = nI (35 * S + 16 + 5 * K) ∧ h' = h) := by
  refine AM.of (by decide +kernel) (by simp [Value.category]) (Nat.le_of_ble_eq_true rfl) ?_
  show AW X l cX7_lockAt RX7 "lockAt" (some .int) 2 0 none _ 0 0 0 [some (.int (nI S)), some (.int (nI K))] [] h
  refine aw_bipush (v := nI 35) (pcn := 2) dX7_lockAt_0 rfl (by decide) ?_
  refine aw_ilo 0 (pcn := 3) rfl dX7_lockAt_2 rfl rfl ?_
  refine aw_imulN (pcn := 4) dX7_lockAt_3 rfl ?_
  refine aw_bipush (v := nI 16) (pcn := 6) dX7_lockAt_4 rfl (by decide) ?_
  refine aw_iaddN (pcn := 7) dX7_lockAt_6 rfl ?_
  refine aw_iconst (v := nI 5) (pcn := 8) dX7_lockAt_7 rfl (by decide) ?_
  refine aw_ilo 1 (pcn := 9) rfl dX7_lockAt_8 rfl rfl ?_
  refine aw_imulN (pcn := 10) dX7_lockAt_9 rfl ?_
  refine aw_iaddN (pcn := 11) dX7_lockAt_10 rfl ?_
  exact aw_iret dX7_lockAt_11 rfl ⟨_, rfl, ⟨rfl, rfl⟩⟩

set_option maxHeartbeats 8000000 in
set_option maxRecDepth 20000 in
theorem r_free {X : XG} {l : Launch} {Γ : NM} {ow : Nat → Nat × Nat} {h : Hp} {T Tr : TB} {nh : Nat} (hW : WD Γ ow h T Tr nh) {S P : Nat} (hS : S < 64) (hP : P < 6) : AM X l yX7_free cX7_free 3 (some .int) 0 0 0 [.ref (Γ 14 0), .int (nI S), .int (nI P)] h (qi fun r h' => r = Tr 19 (35 * S + 4 + P) - Tr 19 (35 * S + 10 + P) ∧ h' = h) := by
  refine AM.of (by decide +kernel) (by simp [Value.category]) (Nat.le_of_ble_eq_true rfl) ?_
  show AW X l cX7_free RX7 "free" (some .int) 3 0 none _ 0 0 0 [some (.ref (Γ 14 0)), some (.int (nI S)), some (.int (nI P))] [] h
  refine aw_alo 0 (pcn := 1) rfl dX7_free_0 rfl rfl (rf_some _) ?_
  refine aw_getf (pcn := 4) fl_X7_52 dX7_free_1 rfl hW.mo rfl ?_
  refine aw_bipush (v := nI 35) (pcn := 6) dX7_free_4 rfl (by decide) ?_
  refine aw_ilo 1 (pcn := 7) rfl dX7_free_6 rfl rfl ?_
  refine aw_imulN (pcn := 8) dX7_free_7 rfl ?_
  refine aw_iconst (v := nI 4) (pcn := 9) dX7_free_8 rfl (by decide) ?_
  refine aw_iaddN (pcn := 10) dX7_free_9 rfl ?_
  refine aw_ilo 2 (pcn := 11) rfl dX7_free_10 rfl rfl ?_
  refine aw_iaddN (pcn := 12) dX7_free_11 rfl ?_
  refine aw_ialdM (j := 19) (pcn := 13) hW dX7_free_12 rfl (show _ < 2240 by omega) ?_
  refine aw_alo 0 (pcn := 14) rfl dX7_free_13 rfl rfl (rf_some _) ?_
  refine aw_getf (pcn := 17) fl_X7_52 dX7_free_14 rfl hW.mo rfl ?_
  refine aw_bipush (v := nI 35) (pcn := 19) dX7_free_17 rfl (by decide) ?_
  refine aw_ilo 1 (pcn := 20) rfl dX7_free_19 rfl rfl ?_
  refine aw_imulN (pcn := 21) dX7_free_20 rfl ?_
  refine aw_bipush (v := nI 10) (pcn := 23) dX7_free_21 rfl (by decide) ?_
  refine aw_iaddN (pcn := 24) dX7_free_23 rfl ?_
  refine aw_ilo 2 (pcn := 25) rfl dX7_free_24 rfl rfl ?_
  refine aw_iaddN (pcn := 26) dX7_free_25 rfl ?_
  refine aw_ialdM (j := 19) (pcn := 27) hW dX7_free_26 rfl (show _ < 2240 by omega) ?_
  refine aw_isub (pcn := 28) dX7_free_27 rfl ?_
  exact aw_iret dX7_free_28 rfl ⟨_, rfl, ⟨rfl, rfl⟩⟩
