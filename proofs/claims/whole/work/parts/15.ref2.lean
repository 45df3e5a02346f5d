/-! the reference's looking methods -/
set_option maxHeartbeats 8000000 in
set_option maxRecDepth 20000 in
theorem r_isMember {X : XG} {l : Launch} {Γ : NM} {ow : Nat → Nat × Nat} {h : Hp} {T Tr : TB} {nh : Nat} (hW : WD Γ ow h T Tr nh) {c : Nat} (hc : c < 8) (p : Int32) : AM X l yX7_isMember cX7_isMember 3 (some .boolean) 2 0 0 [.ref (Γ 14 0), .int (nI c), .int p] h (qi fun r h' => r = bI (mbT Tr c p) ∧ h' = h) := by
  refine AM.of (by decide +kernel) (by simp [Value.category]) (Nat.le_of_ble_eq_true rfl) ?_
  show AW X l cX7_isMember RX7 "isMember" (some .boolean) 3 2 none _ 0 0 0 [some (.ref (Γ 14 0)), some (.int (nI c)), some (.int p)] [] h
  refine aw_ilo 2 (pcn := 1) rfl dX7_isMember_0 rfl rfl ?_
  refine aw_Si (pcn := 4) (r_isParty _) mf_X7_isParty mv_X7_isParty ml_X7_75 rfl (by decide) (by decide) (by decide) (by exact Nat.le_of_ble_eq_true rfl) rfl dX7_isMember_1 rfl (fun r h2 hq => ?_)
  obtain ⟨rfl, hq⟩ := hq
  obtain rfl := hq.symm
  refine aw_if_eqB (t := 24) (pcn := 7) dX7_isMember_4 rfl (by decide) (fun q1 => ?_) (fun q1 => ?_)
  · refine aw_iconst (v := nI 0) (pcn := 25) dX7_isMember_24 rfl (by decide) ?_
    exact aw_zret dX7_isMember_25 rfl (by decide) ⟨_, rfl, ⟨by simp_all [bI, mbT, isPT, nI_one, nI_0], rfl⟩⟩
  · refine aw_alo 0 (pcn := 8) rfl dX7_isMember_7 rfl rfl (rf_some _) ?_
    refine aw_getf (pcn := 11) fl_X7_16 dX7_isMember_8 rfl hW.mo rfl ?_
    refine aw_ilo 1 (pcn := 12) rfl dX7_isMember_11 rfl rfl ?_
    refine aw_ialdM (j := 6) (pcn := 13) hW dX7_isMember_12 rfl (show _ < 8 by omega) ?_
    refine aw_ilo 2 (pcn := 14) rfl dX7_isMember_13 rfl rfl ?_
    refine aw_Si (pcn := 17) (r_has _ _) mf_X7_has mv_X7_has ml_X7_79 rfl (by decide) (by decide) (by decide) (by exact Nat.le_of_ble_eq_true rfl) rfl dX7_isMember_14 rfl (fun r h2 hq => ?_)
    obtain ⟨rfl, hq⟩ := hq
    obtain rfl := hq.symm
    refine aw_if_eqB (t := 24) (pcn := 20) dX7_isMember_17 rfl (by decide) (fun q2 => ?_) (fun q2 => ?_)
    · refine aw_iconst (v := nI 0) (pcn := 25) dX7_isMember_24 rfl (by decide) ?_
      exact aw_zret dX7_isMember_25 rfl (by decide) ⟨_, rfl, ⟨by simp_all [bI, mbT, isPT, nI_one, nI_0], rfl⟩⟩
    · refine aw_iconst (v := nI 1) (pcn := 21) dX7_isMember_20 rfl (by decide) ?_
      refine aw_goto (t := 25) dX7_isMember_21 (by decide) ?_
      exact aw_zret dX7_isMember_25 rfl (by decide) ⟨_, rfl, ⟨by simp_all [bI, mbT, isPT, nI_one, nI_0], rfl⟩⟩

set_option maxHeartbeats 8000000 in
set_option maxRecDepth 20000 in
theorem r_isOf {X : XG} {l : Launch} {Γ : NM} {ow : Nat → Nat × Nat} {h : Hp} {T Tr : TB} {nh : Nat} (hW : WD Γ ow h T Tr nh) {s : Int32} (hs : isST Tr s = true → ∃ S c, s = nI S ∧ S < 64 ∧ c < 8 ∧ Tr 19 (35 * S + 0) = nI c) (p : Int32) : AM X l yX7_isOf cX7_isOf 3 (some .boolean) 3 0 0 [.ref (Γ 14 0), .int s, .int p] h (qi fun r h' => r = bI (isOfT Tr s p) ∧ h' = h) := by
  refine AM.of (by decide +kernel) (by simp [Value.category]) (Nat.le_of_ble_eq_true rfl) ?_
  show AW X l cX7_isOf RX7 "isOf" (some .boolean) 3 3 none _ 0 0 0 [some (.ref (Γ 14 0)), some (.int s), some (.int p)] [] h
  refine aw_alo 0 (pcn := 1) rfl dX7_isOf_0 rfl rfl (rf_some _) ?_
  refine aw_ilo 1 (pcn := 2) rfl dX7_isOf_1 rfl rfl ?_
  refine aw_Vi (pcn := 5) (r_isState hW _) mf_X7_isState mv_X7_isState hW.mo rfl ml_X7_83 rfl (by decide) (by decide) (by decide) (by exact Nat.le_of_ble_eq_true rfl) rfl dX7_isOf_2 rfl (fun r h2 hq => ?_)
  obtain ⟨rfl, hq⟩ := hq
  obtain rfl := hq.symm
  refine aw_if_eqB (t := 25) (pcn := 8) dX7_isOf_5 rfl (by decide) (fun q1 => ?_) (fun q1 => ?_)
  · refine aw_iconst (v := nI 0) (pcn := 26) dX7_isOf_25 rfl (by decide) ?_
    exact aw_zret dX7_isOf_26 rfl (by decide) ⟨_, rfl, ⟨by first | (rw [isOfT_eq hS hc hc8]; simp_all [bI, isST, nI_one, nI_0]; done) | (unfold isOfT isST; simp_all [bI, nI_one, nI_0]; done), rfl⟩⟩
  · obtain ⟨S, c, rfl, hS, hc8, hc⟩ := hs q1
    refine aw_alo 0 (pcn := 9) rfl dX7_isOf_8 rfl rfl (rf_some _) ?_
    refine aw_alo 0 (pcn := 10) rfl dX7_isOf_9 rfl rfl (rf_some _) ?_
    refine aw_ilo 1 (pcn := 11) rfl dX7_isOf_10 rfl rfl ?_
    refine aw_Vi (pcn := 14) (r_channelOf hW (S := S) hS) mf_X7_channelOf mv_X7_channelOf hW.mo rfl ml_X7_86 rfl (by decide) (by decide) (by decide) (by exact Nat.le_of_ble_eq_true rfl) rfl dX7_isOf_11 rfl (fun r h2 hq => ?_)
    obtain ⟨rfl, hq⟩ := hq
    obtain rfl := hq.symm
    rw [hc]
    refine aw_ilo 2 (pcn := 15) rfl dX7_isOf_14 rfl rfl ?_
    refine aw_Vi (pcn := 18) (r_isMember hW (c := _) (by omega) _) mf_X7_isMember mv_X7_isMember hW.mo rfl ml_X7_90 rfl (by decide) (by decide) (by decide) (by exact Nat.le_of_ble_eq_true rfl) rfl dX7_isOf_15 rfl (fun r h2 hq => ?_)
    obtain ⟨rfl, hq⟩ := hq
    obtain rfl := hq.symm
    refine aw_if_eqB (t := 25) (pcn := 21) dX7_isOf_18 rfl (by decide) (fun q2 => ?_) (fun q2 => ?_)
    · refine aw_iconst (v := nI 0) (pcn := 26) dX7_isOf_25 rfl (by decide) ?_
      exact aw_zret dX7_isOf_26 rfl (by decide) ⟨_, rfl, ⟨by first | (rw [isOfT_eq hS hc hc8]; simp_all [bI, isST, nI_one, nI_0]; done) | (unfold isOfT isST; simp_all [bI, nI_one, nI_0]; done), rfl⟩⟩
    · refine aw_iconst (v := nI 1) (pcn := 22) dX7_isOf_21 rfl (by decide) ?_
      refine aw_goto (t := 26) dX7_isOf_22 (by decide) ?_
      exact aw_zret dX7_isOf_26 rfl (by decide) ⟨_, rfl, ⟨by first | (rw [isOfT_eq hS hc hc8]; simp_all [bI, isST, nI_one, nI_0]; done) | (unfold isOfT isST; simp_all [bI, nI_one, nI_0]; done), rfl⟩⟩

set_option maxHeartbeats 8000000 in
set_option maxRecDepth 20000 in
theorem r_whole {X : XG} {l : Launch} {Γ : NM} {ow : Nat → Nat × Nat} {h : Hp} {T Tr : TB} {nh : Nat} (hW : WD Γ ow h T Tr nh) {S : Nat} (hS : S < 64) : AM X l yX7_whole cX7_whole 4 (some .int) 1 0 0 [.ref (Γ 14 0), .int (nI S)] h (qi fun r h' => r = wholeT Tr S ∧ h' = h) := by
  refine AM.of (by decide +kernel) (by simp [Value.category]) (Nat.le_of_ble_eq_true rfl) ?_
  show AW X l cX7_whole RX7 "whole" (some .int) 4 1 none _ 0 0 0 [some (.ref (Γ 14 0)), some (.int (nI S)), none, none] [] h
  refine aw_alo 0 (pcn := 1) rfl dX7_whole_0 rfl rfl (rf_some _) ?_
  refine aw_getf (pcn := 4) fl_X7_52 dX7_whole_1 rfl hW.mo rfl ?_
  refine aw_bipush (v := nI 35) (pcn := 6) dX7_whole_4 rfl (by decide) ?_
  refine aw_ilo 1 (pcn := 7) rfl dX7_whole_6 rfl rfl ?_
  refine aw_imulN (pcn := 8) dX7_whole_7 rfl ?_
  refine aw_bipush (v := nI 31) (pcn := 10) dX7_whole_8 rfl (by decide) ?_
  refine aw_iaddN (pcn := 11) dX7_whole_10 rfl ?_
  refine aw_ialdM (j := 19) (pcn := 12) hW dX7_whole_11 rfl (show _ < 2240 by omega) ?_
  refine aw_ist 2 (pcn := 13) rfl dX7_whole_12 rfl (by decide) ?_
  dsimp only [List.set_cons_zero, List.set_cons_succ]
  refine aw_iconst (v := nI 0) (pcn := 14) dX7_whole_13 rfl (by decide) ?_
  refine aw_ist 3 (pcn := 15) rfl dX7_whole_14 rfl (by decide) ?_
  dsimp only [List.set_cons_zero, List.set_cons_succ]
  refine aw_ilo 3 (pcn := 16) rfl dX7_whole_15 rfl rfl ?_
  refine aw_bipush (v := nI 6) (pcn := 18) dX7_whole_16 rfl (by decide) ?_
  refine aw_icmp_ge (t := 43) (pcn := 21) dX7_whole_18 rfl (by decide) (fun q1 => absurd q1 (by decide)) (fun q1 => ?_)
  refine aw_ilo 2 (pcn := 22) rfl dX7_whole_21 rfl rfl ?_
  refine aw_alo 0 (pcn := 23) rfl dX7_whole_22 rfl rfl (rf_some _) ?_
  refine aw_getf (pcn := 26) fl_X7_52 dX7_whole_23 rfl hW.mo rfl ?_
  refine aw_bipush (v := nI 35) (pcn := 28) dX7_whole_26 rfl (by decide) ?_
  refine aw_ilo 1 (pcn := 29) rfl dX7_whole_28 rfl rfl ?_
  refine aw_imulN (pcn := 30) dX7_whole_29 rfl ?_
  refine aw_iconst (v := nI 4) (pcn := 31) dX7_whole_30 rfl (by decide) ?_
  refine aw_iaddN (pcn := 32) dX7_whole_31 rfl ?_
  refine aw_ilo 3 (pcn := 33) rfl dX7_whole_32 rfl rfl ?_
  refine aw_iaddN (pcn := 34) dX7_whole_33 rfl ?_
  refine aw_ialdM (j := 19) (pcn := 35) hW dX7_whole_34 rfl (show _ < 2240 by omega) ?_
  refine aw_iadd (pcn := 36) dX7_whole_35 rfl ?_
  refine aw_ist 2 (pcn := 37) rfl dX7_whole_36 rfl (by decide) ?_
  dsimp only [List.set_cons_zero, List.set_cons_succ]
  refine aw_iinc (v := nI 1) (pcn := 40) dX7_whole_37 rfl (by decide) rfl (by decide) ?_
  dsimp only [List.set_cons_zero, List.set_cons_succ]
  refine aw_goto (t := 15) dX7_whole_40 (by decide) ?_
  refine aw_ilo 3 (pcn := 16) rfl dX7_whole_15 rfl rfl ?_
  refine aw_bipush (v := nI 6) (pcn := 18) dX7_whole_16 rfl (by decide) ?_
  refine aw_icmp_ge (t := 43) (pcn := 21) dX7_whole_18 rfl (by decide) (fun q2 => absurd q2 (by decide)) (fun q2 => ?_)
  refine aw_ilo 2 (pcn := 22) rfl dX7_whole_21 rfl rfl ?_
  refine aw_alo 0 (pcn := 23) rfl dX7_whole_22 rfl rfl (rf_some _) ?_
  refine aw_getf (pcn := 26) fl_X7_52 dX7_whole_23 rfl hW.mo rfl ?_
  refine aw_bipush (v := nI 35) (pcn := 28) dX7_whole_26 rfl (by decide) ?_
  refine aw_ilo 1 (pcn := 29) rfl dX7_whole_28 rfl rfl ?_
  refine aw_imulN (pcn := 30) dX7_whole_29 rfl ?_
  refine aw_iconst (v := nI 4) (pcn := 31) dX7_whole_30 rfl (by decide) ?_
  refine aw_iaddN (pcn := 32) dX7_whole_31 rfl ?_
  refine aw_ilo 3 (pcn := 33) rfl dX7_whole_32 rfl rfl ?_
  refine aw_iaddN (pcn := 34) dX7_whole_33 rfl ?_
  refine aw_ialdM (j := 19) (pcn := 35) hW dX7_whole_34 rfl (show _ < 2240 by omega) ?_
  refine aw_iadd (pcn := 36) dX7_whole_35 rfl ?_
  refine aw_ist 2 (pcn := 37) rfl dX7_whole_36 rfl (by decide) ?_
  dsimp only [List.set_cons_zero, List.set_cons_succ]
  refine aw_iinc (v := nI 2) (pcn := 40) dX7_whole_37 rfl (by decide) rfl (by decide) ?_
  dsimp only [List.set_cons_zero, List.set_cons_succ]
  refine aw_goto (t := 15) dX7_whole_40 (by decide) ?_
  refine aw_ilo 3 (pcn := 16) rfl dX7_whole_15 rfl rfl ?_
  refine aw_bipush (v := nI 6) (pcn := 18) dX7_whole_16 rfl (by decide) ?_
  refine aw_icmp_ge (t := 43) (pcn := 21) dX7_whole_18 rfl (by decide) (fun q3 => absurd q3 (by decide)) (fun q3 => ?_)
  refine aw_ilo 2 (pcn := 22) rfl dX7_whole_21 rfl rfl ?_
  refine aw_alo 0 (pcn := 23) rfl dX7_whole_22 rfl rfl (rf_some _) ?_
  refine aw_getf (pcn := 26) fl_X7_52 dX7_whole_23 rfl hW.mo rfl ?_
  refine aw_bipush (v := nI 35) (pcn := 28) dX7_whole_26 rfl (by decide) ?_
  refine aw_ilo 1 (pcn := 29) rfl dX7_whole_28 rfl rfl ?_
  refine aw_imulN (pcn := 30) dX7_whole_29 rfl ?_
  refine aw_iconst (v := nI 4) (pcn := 31) dX7_whole_30 rfl (by decide) ?_
  refine aw_iaddN (pcn := 32) dX7_whole_31 rfl ?_
  refine aw_ilo 3 (pcn := 33) rfl dX7_whole_32 rfl rfl ?_
  refine aw_iaddN (pcn := 34) dX7_whole_33 rfl ?_
  refine aw_ialdM (j := 19) (pcn := 35) hW dX7_whole_34 rfl (show _ < 2240 by omega) ?_
  refine aw_iadd (pcn := 36) dX7_whole_35 rfl ?_
  refine aw_ist 2 (pcn := 37) rfl dX7_whole_36 rfl (by decide) ?_
  dsimp only [List.set_cons_zero, List.set_cons_succ]
  refine aw_iinc (v := nI 3) (pcn := 40) dX7_whole_37 rfl (by decide) rfl (by decide) ?_
  dsimp only [List.set_cons_zero, List.set_cons_succ]
  refine aw_goto (t := 15) dX7_whole_40 (by decide) ?_
  refine aw_ilo 3 (pcn := 16) rfl dX7_whole_15 rfl rfl ?_
  refine aw_bipush (v := nI 6) (pcn := 18) dX7_whole_16 rfl (by decide) ?_
  refine aw_icmp_ge (t := 43) (pcn := 21) dX7_whole_18 rfl (by decide) (fun q4 => absurd q4 (by decide)) (fun q4 => ?_)
  refine aw_ilo 2 (pcn := 22) rfl dX7_whole_21 rfl rfl ?_
  refine aw_alo 0 (pcn := 23) rfl dX7_whole_22 rfl rfl (rf_some _) ?_
  refine aw_getf (pcn := 26) fl_X7_52 dX7_whole_23 rfl hW.mo rfl ?_
  refine aw_bipush (v := nI 35) (pcn := 28) dX7_whole_26 rfl (by decide) ?_
  refine aw_ilo 1 (pcn := 29) rfl dX7_whole_28 rfl rfl ?_
  refine aw_imulN (pcn := 30) dX7_whole_29 rfl ?_
  refine aw_iconst (v := nI 4) (pcn := 31) dX7_whole_30 rfl (by decide) ?_
  refine aw_iaddN (pcn := 32) dX7_whole_31 rfl ?_
  refine aw_ilo 3 (pcn := 33) rfl dX7_whole_32 rfl rfl ?_
  refine aw_iaddN (pcn := 34) dX7_whole_33 rfl ?_
  refine aw_ialdM (j := 19) (pcn := 35) hW dX7_whole_34 rfl (show _ < 2240 by omega) ?_
  refine aw_iadd (pcn := 36) dX7_whole_35 rfl ?_
  refine aw_ist 2 (pcn := 37) rfl dX7_whole_36 rfl (by decide) ?_
  dsimp only [List.set_cons_zero, List.set_cons_succ]
  refine aw_iinc (v := nI 4) (pcn := 40) dX7_whole_37 rfl (by decide) rfl (by decide) ?_
  dsimp only [List.set_cons_zero, List.set_cons_succ]
  refine aw_goto (t := 15) dX7_whole_40 (by decide) ?_
  refine aw_ilo 3 (pcn := 16) rfl dX7_whole_15 rfl rfl ?_
  refine aw_bipush (v := nI 6) (pcn := 18) dX7_whole_16 rfl (by decide) ?_
  refine aw_icmp_ge (t := 43) (pcn := 21) dX7_whole_18 rfl (by decide) (fun q5 => absurd q5 (by decide)) (fun q5 => ?_)
  refine aw_ilo 2 (pcn := 22) rfl dX7_whole_21 rfl rfl ?_
  refine aw_alo 0 (pcn := 23) rfl dX7_whole_22 rfl rfl (rf_some _) ?_
  refine aw_getf (pcn := 26) fl_X7_52 dX7_whole_23 rfl hW.mo rfl ?_
  refine aw_bipush (v := nI 35) (pcn := 28) dX7_whole_26 rfl (by decide) ?_
  refine aw_ilo 1 (pcn := 29) rfl dX7_whole_28 rfl rfl ?_
  refine aw_imulN (pcn := 30) dX7_whole_29 rfl ?_
  refine aw_iconst (v := nI 4) (pcn := 31) dX7_whole_30 rfl (by decide) ?_
  refine aw_iaddN (pcn := 32) dX7_whole_31 rfl ?_
  refine aw_ilo 3 (pcn := 33) rfl dX7_whole_32 rfl rfl ?_
  refine aw_iaddN (pcn := 34) dX7_whole_33 rfl ?_
  refine aw_ialdM (j := 19) (pcn := 35) hW dX7_whole_34 rfl (show _ < 2240 by omega) ?_
  refine aw_iadd (pcn := 36) dX7_whole_35 rfl ?_
  refine aw_ist 2 (pcn := 37) rfl dX7_whole_36 rfl (by decide) ?_
  dsimp only [List.set_cons_zero, List.set_cons_succ]
  refine aw_iinc (v := nI 5) (pcn := 40) dX7_whole_37 rfl (by decide) rfl (by decide) ?_
  dsimp only [List.set_cons_zero, List.set_cons_succ]
  refine aw_goto (t := 15) dX7_whole_40 (by decide) ?_
  refine aw_ilo 3 (pcn := 16) rfl dX7_whole_15 rfl rfl ?_
  refine aw_bipush (v := nI 6) (pcn := 18) dX7_whole_16 rfl (by decide) ?_
  refine aw_icmp_ge (t := 43) (pcn := 21) dX7_whole_18 rfl (by decide) (fun q6 => absurd q6 (by decide)) (fun q6 => ?_)
  refine aw_ilo 2 (pcn := 22) rfl dX7_whole_21 rfl rfl ?_
  refine aw_alo 0 (pcn := 23) rfl dX7_whole_22 rfl rfl (rf_some _) ?_
  refine aw_getf (pcn := 26) fl_X7_52 dX7_whole_23 rfl hW.mo rfl ?_
  refine aw_bipush (v := nI 35) (pcn := 28) dX7_whole_26 rfl (by decide) ?_
  refine aw_ilo 1 (pcn := 29) rfl dX7_whole_28 rfl rfl ?_
  refine aw_imulN (pcn := 30) dX7_whole_29 rfl ?_
  refine aw_iconst (v := nI 4) (pcn := 31) dX7_whole_30 rfl (by decide) ?_
  refine aw_iaddN (pcn := 32) dX7_whole_31 rfl ?_
  refine aw_ilo 3 (pcn := 33) rfl dX7_whole_32 rfl rfl ?_
  refine aw_iaddN (pcn := 34) dX7_whole_33 rfl ?_
  refine aw_ialdM (j := 19) (pcn := 35) hW dX7_whole_34 rfl (show _ < 2240 by omega) ?_
  refine aw_iadd (pcn := 36) dX7_whole_35 rfl ?_
  refine aw_ist 2 (pcn := 37) rfl dX7_whole_36 rfl (by decide) ?_
  dsimp only [List.set_cons_zero, List.set_cons_succ]
  refine aw_iinc (v := nI 6) (pcn := 40) dX7_whole_37 rfl (by decide) rfl (by decide) ?_
  dsimp only [List.set_cons_zero, List.set_cons_succ]
  refine aw_goto (t := 15) dX7_whole_40 (by decide) ?_
  refine aw_ilo 3 (pcn := 16) rfl dX7_whole_15 rfl rfl ?_
  refine aw_bipush (v := nI 6) (pcn := 18) dX7_whole_16 rfl (by decide) ?_
  refine aw_icmp_ge (t := 43) (pcn := 21) dX7_whole_18 rfl (by decide) (fun q7 => ?_) (fun q7 => absurd (by decide) q7)
  refine aw_iconst (v := nI 0) (pcn := 44) dX7_whole_43 rfl (by decide) ?_
  refine aw_ist 3 (pcn := 45) rfl dX7_whole_44 rfl (by decide) ?_
  dsimp only [List.set_cons_zero, List.set_cons_succ]
  refine aw_ilo 3 (pcn := 46) rfl dX7_whole_45 rfl rfl ?_
  refine aw_iconst (v := nI 3) (pcn := 47) dX7_whole_46 rfl (by decide) ?_
  refine aw_icmp_ge (t := 71) (pcn := 50) dX7_whole_47 rfl (by decide) (fun q8 => absurd q8 (by decide)) (fun q8 => ?_)
  refine aw_ilo 2 (pcn := 51) rfl dX7_whole_50 rfl rfl ?_
  refine aw_alo 0 (pcn := 52) rfl dX7_whole_51 rfl rfl (rf_some _) ?_
  refine aw_getf (pcn := 55) fl_X7_52 dX7_whole_52 rfl hW.mo rfl ?_
  refine aw_ilo 1 (pcn := 56) rfl dX7_whole_55 rfl rfl ?_
  refine aw_ilo 3 (pcn := 57) rfl dX7_whole_56 rfl rfl ?_
  refine aw_Si (pcn := 60) (r_lockAt _ _) mf_X7_lockAt mv_X7_lockAt ml_X7_93 rfl (by decide) (by decide) (by decide) (by exact Nat.le_of_ble_eq_true rfl) rfl dX7_whole_57 rfl (fun r h2 hq => ?_)
  obtain ⟨rfl, hq⟩ := hq
  obtain rfl := hq.symm
  refine aw_iconst (v := nI 0) (pcn := 61) dX7_whole_60 rfl (by decide) ?_
  refine aw_iaddN (pcn := 62) dX7_whole_61 rfl ?_
  refine aw_ialdM (j := 19) (pcn := 63) hW dX7_whole_62 rfl (show _ < 2240 by omega) ?_
  refine aw_iadd (pcn := 64) dX7_whole_63 rfl ?_
  refine aw_ist 2 (pcn := 65) rfl dX7_whole_64 rfl (by decide) ?_
  dsimp only [List.set_cons_zero, List.set_cons_succ]
  refine aw_iinc (v := nI 1) (pcn := 68) dX7_whole_65 rfl (by decide) rfl (by decide) ?_
  dsimp only [List.set_cons_zero, List.set_cons_succ]
  refine aw_goto (t := 45) dX7_whole_68 (by decide) ?_
  refine aw_ilo 3 (pcn := 46) rfl dX7_whole_45 rfl rfl ?_
  refine aw_iconst (v := nI 3) (pcn := 47) dX7_whole_46 rfl (by decide) ?_
  refine aw_icmp_ge (t := 71) (pcn := 50) dX7_whole_47 rfl (by decide) (fun q9 => absurd q9 (by decide)) (fun q9 => ?_)
  refine aw_ilo 2 (pcn := 51) rfl dX7_whole_50 rfl rfl ?_
  refine aw_alo 0 (pcn := 52) rfl dX7_whole_51 rfl rfl (rf_some _) ?_
  refine aw_getf (pcn := 55) fl_X7_52 dX7_whole_52 rfl hW.mo rfl ?_
  refine aw_ilo 1 (pcn := 56) rfl dX7_whole_55 rfl rfl ?_
  refine aw_ilo 3 (pcn := 57) rfl dX7_whole_56 rfl rfl ?_
  refine aw_Si (pcn := 60) (r_lockAt _ _) mf_X7_lockAt mv_X7_lockAt ml_X7_93 rfl (by decide) (by decide) (by decide) (by exact Nat.le_of_ble_eq_true rfl) rfl dX7_whole_57 rfl (fun r h2 hq => ?_)
  obtain ⟨rfl, hq⟩ := hq
  obtain rfl := hq.symm
  refine aw_iconst (v := nI 0) (pcn := 61) dX7_whole_60 rfl (by decide) ?_
  refine aw_iaddN (pcn := 62) dX7_whole_61 rfl ?_
  refine aw_ialdM (j := 19) (pcn := 63) hW dX7_whole_62 rfl (show _ < 2240 by omega) ?_
  refine aw_iadd (pcn := 64) dX7_whole_63 rfl ?_
  refine aw_ist 2 (pcn := 65) rfl dX7_whole_64 rfl (by decide) ?_
  dsimp only [List.set_cons_zero, List.set_cons_succ]
  refine aw_iinc (v := nI 2) (pcn := 68) dX7_whole_65 rfl (by decide) rfl (by decide) ?_
  dsimp only [List.set_cons_zero, List.set_cons_succ]
  refine aw_goto (t := 45) dX7_whole_68 (by decide) ?_
  refine aw_ilo 3 (pcn := 46) rfl dX7_whole_45 rfl rfl ?_
  refine aw_iconst (v := nI 3) (pcn := 47) dX7_whole_46 rfl (by decide) ?_
  refine aw_icmp_ge (t := 71) (pcn := 50) dX7_whole_47 rfl (by decide) (fun q10 => absurd q10 (by decide)) (fun q10 => ?_)
  refine aw_ilo 2 (pcn := 51) rfl dX7_whole_50 rfl rfl ?_
  refine aw_alo 0 (pcn := 52) rfl dX7_whole_51 rfl rfl (rf_some _) ?_
  refine aw_getf (pcn := 55) fl_X7_52 dX7_whole_52 rfl hW.mo rfl ?_
  refine aw_ilo 1 (pcn := 56) rfl dX7_whole_55 rfl rfl ?_
  refine aw_ilo 3 (pcn := 57) rfl dX7_whole_56 rfl rfl ?_
  refine aw_Si (pcn := 60) (r_lockAt _ _) mf_X7_lockAt mv_X7_lockAt ml_X7_93 rfl (by decide) (by decide) (by decide) (by exact Nat.le_of_ble_eq_true rfl) rfl dX7_whole_57 rfl (fun r h2 hq => ?_)
  obtain ⟨rfl, hq⟩ := hq
  obtain rfl := hq.symm
  refine aw_iconst (v := nI 0) (pcn := 61) dX7_whole_60 rfl (by decide) ?_
  refine aw_iaddN (pcn := 62) dX7_whole_61 rfl ?_
  refine aw_ialdM (j := 19) (pcn := 63) hW dX7_whole_62 rfl (show _ < 2240 by omega) ?_
  refine aw_iadd (pcn := 64) dX7_whole_63 rfl ?_
  refine aw_ist 2 (pcn := 65) rfl dX7_whole_64 rfl (by decide) ?_
  dsimp only [List.set_cons_zero, List.set_cons_succ]
  refine aw_iinc (v := nI 3) (pcn := 68) dX7_whole_65 rfl (by decide) rfl (by decide) ?_
  dsimp only [List.set_cons_zero, List.set_cons_succ]
  refine aw_goto (t := 45) dX7_whole_68 (by decide) ?_
  refine aw_ilo 3 (pcn := 46) rfl dX7_whole_45 rfl rfl ?_
  refine aw_iconst (v := nI 3) (pcn := 47) dX7_whole_46 rfl (by decide) ?_
  refine aw_icmp_ge (t := 71) (pcn := 50) dX7_whole_47 rfl (by decide) (fun q11 => ?_) (fun q11 => absurd (by decide) q11)
  refine aw_ilo 2 (pcn := 72) rfl dX7_whole_71 rfl rfl ?_
  exact aw_iret dX7_whole_72 rfl ⟨_, rfl, ⟨rfl, rfl⟩⟩

set_option maxHeartbeats 8000000 in
set_option maxRecDepth 20000 in
theorem r_counts {X : XG} {l : Launch} {Γ : NM} {ow : Nat → Nat × Nat} {h : Hp} {T Tr : TB} {nh : Nat} (hW : WD Γ ow h T Tr nh) {S c : Nat} (hS : S < 64) (hc8 : c < 8) (hc : Tr 19 (35 * S + 0) = nI c) : AM X l yX7_counts cX7_counts 3 (some .boolean) 2 0 0 [.ref (Γ 14 0), .int (nI S)] h (qi fun r h' => r = bI (cnt Tr c S) ∧ h' = h) := by
  refine AM.of (by decide +kernel) (by simp [Value.category]) (Nat.le_of_ble_eq_true rfl) ?_
  show AW X l cX7_counts RX7 "counts" (some .boolean) 3 2 none _ 0 0 0 [some (.ref (Γ 14 0)), some (.int (nI S)), none] [] h
  refine aw_alo 0 (pcn := 1) rfl dX7_counts_0 rfl rfl (rf_some _) ?_
  refine aw_ilo 1 (pcn := 2) rfl dX7_counts_1 rfl rfl ?_
  refine aw_Vi (pcn := 5) (r_channelOf hW (S := _) (by omega)) mf_X7_channelOf mv_X7_channelOf hW.mo rfl ml_X7_86 rfl (by decide) (by decide) (by decide) (by exact Nat.le_of_ble_eq_true rfl) rfl dX7_counts_2 rfl (fun r h2 hq => ?_)
  obtain ⟨rfl, hq⟩ := hq
  obtain rfl := hq.symm
  rw [hc]
  refine aw_ist 2 (pcn := 6) rfl dX7_counts_5 rfl (by decide) ?_
  dsimp only [List.set_cons_zero, List.set_cons_succ]
  refine aw_alo 0 (pcn := 7) rfl dX7_counts_6 rfl rfl (rf_some _) ?_
  refine aw_getf (pcn := 10) fl_X7_25 dX7_counts_7 rfl hW.mo rfl ?_
  refine aw_ilo 2 (pcn := 11) rfl dX7_counts_10 rfl rfl ?_
  refine aw_ialdM (j := 9) (pcn := 12) hW dX7_counts_11 rfl (show _ < 8 by omega) ?_
  refine aw_iconst (v := nI 3) (pcn := 13) dX7_counts_12 rfl (by decide) ?_
  refine aw_icmp_eq (t := 54) (pcn := 16) dX7_counts_13 rfl (by decide) (fun q1 => ?_) (fun q1 => ?_)
  · refine aw_iconst (v := nI 0) (pcn := 55) dX7_counts_54 rfl (by decide) ?_
    exact aw_zret dX7_counts_55 rfl (by decide) ⟨_, rfl, ⟨by simp_all [bI, cnt, nI_one, nI_0], rfl⟩⟩
  · refine aw_alo 0 (pcn := 17) rfl dX7_counts_16 rfl rfl (rf_some _) ?_
    refine aw_getf (pcn := 20) fl_X7_52 dX7_counts_17 rfl hW.mo rfl ?_
    refine aw_bipush (v := nI 35) (pcn := 22) dX7_counts_20 rfl (by decide) ?_
    refine aw_ilo 1 (pcn := 23) rfl dX7_counts_22 rfl rfl ?_
    refine aw_imulN (pcn := 24) dX7_counts_23 rfl ?_
    refine aw_iconst (v := nI 2) (pcn := 25) dX7_counts_24 rfl (by decide) ?_
    refine aw_iaddN (pcn := 26) dX7_counts_25 rfl ?_
    refine aw_ialdM (j := 19) (pcn := 27) hW dX7_counts_26 rfl (show _ < 2240 by omega) ?_
    refine aw_alo 0 (pcn := 28) rfl dX7_counts_27 rfl rfl (rf_some _) ?_
    refine aw_getf (pcn := 31) fl_X7_16 dX7_counts_28 rfl hW.mo rfl ?_
    refine aw_ilo 2 (pcn := 32) rfl dX7_counts_31 rfl rfl ?_
    refine aw_ialdM (j := 6) (pcn := 33) hW dX7_counts_32 rfl (show _ < 8 by omega) ?_
    refine aw_icmp_ne (t := 54) (pcn := 36) dX7_counts_33 rfl (by decide) (fun q2 => ?_) (fun q2 => ?_)
    · refine aw_iconst (v := nI 0) (pcn := 55) dX7_counts_54 rfl (by decide) ?_
      exact aw_zret dX7_counts_55 rfl (by decide) ⟨_, rfl, ⟨by simp_all [bI, cnt, nI_one, nI_0], rfl⟩⟩
    · refine aw_alo 0 (pcn := 37) rfl dX7_counts_36 rfl rfl (rf_some _) ?_
      refine aw_ilo 1 (pcn := 38) rfl dX7_counts_37 rfl rfl ?_
      refine aw_Vi (pcn := 41) (r_whole hW (S := _) (by omega)) mf_X7_whole mv_X7_whole hW.mo rfl ml_X7_97 rfl (by decide) (by decide) (by decide) (by exact Nat.le_of_ble_eq_true rfl) rfl dX7_counts_38 rfl (fun r h2 hq => ?_)
      obtain ⟨rfl, hq⟩ := hq
      obtain rfl := hq.symm
      refine aw_alo 0 (pcn := 42) rfl dX7_counts_41 rfl rfl (rf_some _) ?_
      refine aw_getf (pcn := 45) fl_X7_22 dX7_counts_42 rfl hW.mo rfl ?_
      refine aw_ilo 2 (pcn := 46) rfl dX7_counts_45 rfl rfl ?_
      refine aw_ialdM (j := 8) (pcn := 47) hW dX7_counts_46 rfl (show _ < 8 by omega) ?_
      refine aw_icmp_ne (t := 54) (pcn := 50) dX7_counts_47 rfl (by decide) (fun q3 => ?_) (fun q3 => ?_)
      · refine aw_iconst (v := nI 0) (pcn := 55) dX7_counts_54 rfl (by decide) ?_
        exact aw_zret dX7_counts_55 rfl (by decide) ⟨_, rfl, ⟨by simp_all [bI, cnt, nI_one, nI_0], rfl⟩⟩
      · refine aw_iconst (v := nI 1) (pcn := 51) dX7_counts_50 rfl (by decide) ?_
        refine aw_goto (t := 55) dX7_counts_51 (by decide) ?_
        exact aw_zret dX7_counts_55 rfl (by decide) ⟨_, rfl, ⟨by simp_all [bI, cnt, nI_one, nI_0], rfl⟩⟩

set_option maxHeartbeats 8000000 in
set_option maxRecDepth 20000 in
theorem r_isFixed {X : XG} {l : Launch} {Γ : NM} {ow : Nat → Nat × Nat} {h : Hp} {T Tr : TB} {nh : Nat} (hW : WD Γ ow h T Tr nh) {S c : Nat} (hS : S < 64) (hc8 : c < 8) (hc : Tr 19 (35 * S + 0) = nI c) : AM X l yX7_isFixed cX7_isFixed 2 (some .boolean) 1 0 0 [.ref (Γ 14 0), .int (nI S)] h (qi fun r h' => r = bI (fxT Tr c S) ∧ h' = h) := by
  refine AM.of (by decide +kernel) (by simp [Value.category]) (Nat.le_of_ble_eq_true rfl) ?_
  show AW X l cX7_isFixed RX7 "isFixed" (some .boolean) 2 1 none _ 0 0 0 [some (.ref (Γ 14 0)), some (.int (nI S))] [] h
  refine aw_alo 0 (pcn := 1) rfl dX7_isFixed_0 rfl rfl (rf_some _) ?_
  refine aw_getf (pcn := 4) fl_X7_25 dX7_isFixed_1 rfl hW.mo rfl ?_
  refine aw_alo 0 (pcn := 5) rfl dX7_isFixed_4 rfl rfl (rf_some _) ?_
  refine aw_ilo 1 (pcn := 6) rfl dX7_isFixed_5 rfl rfl ?_
  refine aw_Vi (pcn := 9) (r_channelOf hW (S := _) (by omega)) mf_X7_channelOf mv_X7_channelOf hW.mo rfl ml_X7_86 rfl (by decide) (by decide) (by decide) (by exact Nat.le_of_ble_eq_true rfl) rfl dX7_isFixed_6 rfl (fun r h2 hq => ?_)
  obtain ⟨rfl, hq⟩ := hq
  obtain rfl := hq.symm
  rw [hc]
  refine aw_ialdM (j := 9) (pcn := 10) hW dX7_isFixed_9 rfl (show _ < 8 by omega) ?_
  refine aw_iconst (v := nI 3) (pcn := 11) dX7_isFixed_10 rfl (by decide) ?_
  refine aw_icmp_eq (t := 28) (pcn := 14) dX7_isFixed_11 rfl (by decide) (fun q1 => ?_) (fun q1 => ?_)
  · refine aw_iconst (v := nI 1) (pcn := 29) dX7_isFixed_28 rfl (by decide) ?_
    refine aw_goto (t := 33) dX7_isFixed_29 (by decide) ?_
    exact aw_zret dX7_isFixed_33 rfl (by decide) ⟨_, rfl, ⟨by simp_all [bI, fxT, nI_one, nI_0], rfl⟩⟩
  · refine aw_alo 0 (pcn := 15) rfl dX7_isFixed_14 rfl rfl (rf_some _) ?_
    refine aw_getf (pcn := 18) fl_X7_52 dX7_isFixed_15 rfl hW.mo rfl ?_
    refine aw_bipush (v := nI 35) (pcn := 20) dX7_isFixed_18 rfl (by decide) ?_
    refine aw_ilo 1 (pcn := 21) rfl dX7_isFixed_20 rfl rfl ?_
    refine aw_imulN (pcn := 22) dX7_isFixed_21 rfl ?_
    refine aw_iconst (v := nI 2) (pcn := 23) dX7_isFixed_22 rfl (by decide) ?_
    refine aw_iaddN (pcn := 24) dX7_isFixed_23 rfl ?_
    refine aw_ialdM (j := 19) (pcn := 25) hW dX7_isFixed_24 rfl (show _ < 2240 by omega) ?_
    refine aw_if_eq (t := 32) (pcn := 28) dX7_isFixed_25 rfl (by decide) (fun q2 => ?_) (fun q2 => ?_)
    · refine aw_iconst (v := nI 0) (pcn := 33) dX7_isFixed_32 rfl (by decide) ?_
      exact aw_zret dX7_isFixed_33 rfl (by decide) ⟨_, rfl, ⟨by simp_all [bI, fxT, nI_one, nI_0], rfl⟩⟩
    · refine aw_iconst (v := nI 1) (pcn := 29) dX7_isFixed_28 rfl (by decide) ?_
      refine aw_goto (t := 33) dX7_isFixed_29 (by decide) ?_
      exact aw_zret dX7_isFixed_33 rfl (by decide) ⟨_, rfl, ⟨by simp_all [bI, fxT, nI_one, nI_0], rfl⟩⟩

set_option maxHeartbeats 8000000 in
set_option maxRecDepth 20000 in
theorem r_emptyPlace {X : XG} {l : Launch} {Γ : NM} {ow : Nat → Nat × Nat} {h : Hp} {T Tr : TB} {nh : Nat} (hW : WD Γ ow h T Tr nh) {S : Nat} (hS : S < 64) : AM X l yX7_emptyPlace cX7_emptyPlace 3 (some .int) 1 0 0 [.ref (Γ 14 0), .int (nI S)] h (qi fun r h' => r = epT Tr S ∧ h' = h) := by
  refine AM.of (by decide +kernel) (by simp [Value.category]) (Nat.le_of_ble_eq_true rfl) ?_
  show AW X l cX7_emptyPlace RX7 "emptyPlace" (some .int) 3 1 none _ 0 0 0 [some (.ref (Γ 14 0)), some (.int (nI S)), none] [] h
  refine aw_iconst (v := nI 0) (pcn := 1) dX7_emptyPlace_0 rfl (by decide) ?_
  refine aw_ist 2 (pcn := 2) rfl dX7_emptyPlace_1 rfl (by decide) ?_
  dsimp only [List.set_cons_zero, List.set_cons_succ]
  refine aw_ilo 2 (pcn := 3) rfl dX7_emptyPlace_2 rfl rfl ?_
  refine aw_iconst (v := nI 3) (pcn := 4) dX7_emptyPlace_3 rfl (by decide) ?_
  refine aw_icmp_ge (t := 28) (pcn := 7) dX7_emptyPlace_4 rfl (by decide) (fun q1 => absurd q1 (by decide)) (fun q1 => ?_)
  refine aw_alo 0 (pcn := 8) rfl dX7_emptyPlace_7 rfl rfl (rf_some _) ?_
  refine aw_getf (pcn := 11) fl_X7_52 dX7_emptyPlace_8 rfl hW.mo rfl ?_
  refine aw_ilo 1 (pcn := 12) rfl dX7_emptyPlace_11 rfl rfl ?_
  refine aw_ilo 2 (pcn := 13) rfl dX7_emptyPlace_12 rfl rfl ?_
  refine aw_Si (pcn := 16) (r_lockAt _ _) mf_X7_lockAt mv_X7_lockAt ml_X7_93 rfl (by decide) (by decide) (by decide) (by exact Nat.le_of_ble_eq_true rfl) rfl dX7_emptyPlace_13 rfl (fun r h2 hq => ?_)
  obtain ⟨rfl, hq⟩ := hq
  obtain rfl := hq.symm
  refine aw_iconst (v := nI 0) (pcn := 17) dX7_emptyPlace_16 rfl (by decide) ?_
  refine aw_iaddN (pcn := 18) dX7_emptyPlace_17 rfl ?_
  refine aw_ialdM (j := 19) (pcn := 19) hW dX7_emptyPlace_18 rfl (show _ < 2240 by omega) ?_
  refine aw_if_le (t := 28) (pcn := 22) dX7_emptyPlace_19 rfl (by decide) (fun q2 => ?_) (fun q2 => ?_)
  · refine aw_ilo 2 (pcn := 29) rfl dX7_emptyPlace_28 rfl rfl ?_
    refine aw_iconst (v := nI 3) (pcn := 30) dX7_emptyPlace_29 rfl (by decide) ?_
    refine aw_icmp_ne (t := 37) (pcn := 33) dX7_emptyPlace_30 rfl (by decide) (fun q3 => ?_) (fun q3 => absurd q3 (by decide))
    refine aw_ilo 2 (pcn := 38) rfl dX7_emptyPlace_37 rfl rfl ?_
    exact aw_iret dX7_emptyPlace_38 rfl ⟨_, rfl, ⟨by grind [epT], rfl⟩⟩
  · refine aw_iinc (v := nI 1) (pcn := 25) dX7_emptyPlace_22 rfl (by decide) rfl (by decide) ?_
    dsimp only [List.set_cons_zero, List.set_cons_succ]
    refine aw_goto (t := 2) dX7_emptyPlace_25 (by decide) ?_
    refine aw_ilo 2 (pcn := 3) rfl dX7_emptyPlace_2 rfl rfl ?_
    refine aw_iconst (v := nI 3) (pcn := 4) dX7_emptyPlace_3 rfl (by decide) ?_
    refine aw_icmp_ge (t := 28) (pcn := 7) dX7_emptyPlace_4 rfl (by decide) (fun q4 => absurd q4 (by decide)) (fun q4 => ?_)
    refine aw_alo 0 (pcn := 8) rfl dX7_emptyPlace_7 rfl rfl (rf_some _) ?_
    refine aw_getf (pcn := 11) fl_X7_52 dX7_emptyPlace_8 rfl hW.mo rfl ?_
    refine aw_ilo 1 (pcn := 12) rfl dX7_emptyPlace_11 rfl rfl ?_
    refine aw_ilo 2 (pcn := 13) rfl dX7_emptyPlace_12 rfl rfl ?_
    refine aw_Si (pcn := 16) (r_lockAt _ _) mf_X7_lockAt mv_X7_lockAt ml_X7_93 rfl (by decide) (by decide) (by decide) (by exact Nat.le_of_ble_eq_true rfl) rfl dX7_emptyPlace_13 rfl (fun r h2 hq => ?_)
    obtain ⟨rfl, hq⟩ := hq
    obtain rfl := hq.symm
    refine aw_iconst (v := nI 0) (pcn := 17) dX7_emptyPlace_16 rfl (by decide) ?_
    refine aw_iaddN (pcn := 18) dX7_emptyPlace_17 rfl ?_
    refine aw_ialdM (j := 19) (pcn := 19) hW dX7_emptyPlace_18 rfl (show _ < 2240 by omega) ?_
    refine aw_if_le (t := 28) (pcn := 22) dX7_emptyPlace_19 rfl (by decide) (fun q5 => ?_) (fun q5 => ?_)
    · refine aw_ilo 2 (pcn := 29) rfl dX7_emptyPlace_28 rfl rfl ?_
      refine aw_iconst (v := nI 3) (pcn := 30) dX7_emptyPlace_29 rfl (by decide) ?_
      refine aw_icmp_ne (t := 37) (pcn := 33) dX7_emptyPlace_30 rfl (by decide) (fun q6 => ?_) (fun q6 => absurd q6 (by decide))
      refine aw_ilo 2 (pcn := 38) rfl dX7_emptyPlace_37 rfl rfl ?_
      exact aw_iret dX7_emptyPlace_38 rfl ⟨_, rfl, ⟨by grind [epT], rfl⟩⟩
    · refine aw_iinc (v := nI 2) (pcn := 25) dX7_emptyPlace_22 rfl (by decide) rfl (by decide) ?_
      dsimp only [List.set_cons_zero, List.set_cons_succ]
      refine aw_goto (t := 2) dX7_emptyPlace_25 (by decide) ?_
      refine aw_ilo 2 (pcn := 3) rfl dX7_emptyPlace_2 rfl rfl ?_
      refine aw_iconst (v := nI 3) (pcn := 4) dX7_emptyPlace_3 rfl (by decide) ?_
      refine aw_icmp_ge (t := 28) (pcn := 7) dX7_emptyPlace_4 rfl (by decide) (fun q7 => absurd q7 (by decide)) (fun q7 => ?_)
      refine aw_alo 0 (pcn := 8) rfl dX7_emptyPlace_7 rfl rfl (rf_some _) ?_
      refine aw_getf (pcn := 11) fl_X7_52 dX7_emptyPlace_8 rfl hW.mo rfl ?_
      refine aw_ilo 1 (pcn := 12) rfl dX7_emptyPlace_11 rfl rfl ?_
      refine aw_ilo 2 (pcn := 13) rfl dX7_emptyPlace_12 rfl rfl ?_
      refine aw_Si (pcn := 16) (r_lockAt _ _) mf_X7_lockAt mv_X7_lockAt ml_X7_93 rfl (by decide) (by decide) (by decide) (by exact Nat.le_of_ble_eq_true rfl) rfl dX7_emptyPlace_13 rfl (fun r h2 hq => ?_)
      obtain ⟨rfl, hq⟩ := hq
      obtain rfl := hq.symm
      refine aw_iconst (v := nI 0) (pcn := 17) dX7_emptyPlace_16 rfl (by decide) ?_
      refine aw_iaddN (pcn := 18) dX7_emptyPlace_17 rfl ?_
      refine aw_ialdM (j := 19) (pcn := 19) hW dX7_emptyPlace_18 rfl (show _ < 2240 by omega) ?_
      refine aw_if_le (t := 28) (pcn := 22) dX7_emptyPlace_19 rfl (by decide) (fun q8 => ?_) (fun q8 => ?_)
      · refine aw_ilo 2 (pcn := 29) rfl dX7_emptyPlace_28 rfl rfl ?_
        refine aw_iconst (v := nI 3) (pcn := 30) dX7_emptyPlace_29 rfl (by decide) ?_
        refine aw_icmp_ne (t := 37) (pcn := 33) dX7_emptyPlace_30 rfl (by decide) (fun q9 => ?_) (fun q9 => absurd q9 (by decide))
        refine aw_ilo 2 (pcn := 38) rfl dX7_emptyPlace_37 rfl rfl ?_
        exact aw_iret dX7_emptyPlace_38 rfl ⟨_, rfl, ⟨by grind [epT], rfl⟩⟩
      · refine aw_iinc (v := nI 3) (pcn := 25) dX7_emptyPlace_22 rfl (by decide) rfl (by decide) ?_
        dsimp only [List.set_cons_zero, List.set_cons_succ]
        refine aw_goto (t := 2) dX7_emptyPlace_25 (by decide) ?_
        refine aw_ilo 2 (pcn := 3) rfl dX7_emptyPlace_2 rfl rfl ?_
        refine aw_iconst (v := nI 3) (pcn := 4) dX7_emptyPlace_3 rfl (by decide) ?_
        refine aw_icmp_ge (t := 28) (pcn := 7) dX7_emptyPlace_4 rfl (by decide) (fun q10 => ?_) (fun q10 => absurd (by decide) q10)
        refine aw_ilo 2 (pcn := 29) rfl dX7_emptyPlace_28 rfl rfl ?_
        refine aw_iconst (v := nI 3) (pcn := 30) dX7_emptyPlace_29 rfl (by decide) ?_
        refine aw_icmp_ne (t := 37) (pcn := 33) dX7_emptyPlace_30 rfl (by decide) (fun q11 => absurd (by decide) q11) (fun q11 => ?_)
        refine aw_iconst (v := -1) (pcn := 34) dX7_emptyPlace_33 rfl (by decide) ?_
        refine aw_goto (t := 38) dX7_emptyPlace_34 (by decide) ?_
        exact aw_iret dX7_emptyPlace_38 rfl ⟨_, rfl, ⟨by grind [epT], rfl⟩⟩

set_option maxHeartbeats 8000000 in
set_option maxRecDepth 20000 in
theorem r_newest {X : XG} {l : Launch} {Γ : NM} {ow : Nat → Nat × Nat} {h : Hp} {T Tr : TB} {nh : Nat} (hW : WD Γ ow h T Tr nh) {c n : Nat} (hc8 : c < 8) (hn64 : n ≤ 64) (hn : Tr 18 0 = nI n) : AM X l yX7_newest cX7_newest 3 (some .int) 3 0 0 [.ref (Γ 14 0), .int (nI c)] h (qi fun r h' => r = nwT Tr c n ∧ h' = h) := by
  refine AM.of (by decide +kernel) (by simp [Value.category]) (Nat.le_of_ble_eq_true rfl) ?_
  show AW X l cX7_newest RX7 "newest" (some .int) 3 3 none _ 0 0 0 [some (.ref (Γ 14 0)), some (.int (nI c)), none] [] h
  refine aw_alo 0 (pcn := 1) rfl dX7_newest_0 rfl rfl (rf_some _) ?_
  refine aw_getf (pcn := 4) fl_X7_72 dX7_newest_1 rfl hW.mo rfl ?_
  refine aw_iconst (v := nI 1) (pcn := 5) dX7_newest_4 rfl (by decide) ?_
  refine aw_isub (pcn := 6) dX7_newest_5 rfl ?_
  refine aw_ist 2 (pcn := 7) rfl dX7_newest_6 rfl (by decide) ?_
  dsimp only [List.set_cons_zero, List.set_cons_succ]
  rw [hn]
  have H : ∀ j, j ≤ n → AW X l cX7_newest RX7 "newest" (some .int) 3 3 none (qi fun r h' => r = nwT Tr c j ∧ h' = h) 0 0 7 [some (.ref (Γ 14 0)), some (.int (nI c)), some (.int (nI j - nI 1))] [] h := by
    intro j
    induction j with
    | zero =>
      intro hj
      refine aw_iload_n (pcn := 8) dX7_newest_7 rfl rfl ?_
      refine aw_if_lt (t := 34) (pcn := 11) dX7_newest_8 rfl (by decide) (fun q => ?_) (fun q => absurd (by decide) q)
      refine aw_iload_n (pcn := 35) dX7_newest_34 rfl rfl ?_
      exact aw_iret dX7_newest_35 rfl ⟨_, rfl, ⟨(show nI 0 - nI 1 = (-1 : Int32) by decide), rfl⟩⟩
    | succ j ih =>
      intro hj
      have e1 : nI (j + 1) - nI 1 = nI j := by rw [pk_sub (by omega)]; rfl
      rw [e1]
      refine aw_iload_n (pcn := 8) dX7_newest_7 rfl rfl ?_
      refine aw_if_lt (t := 34) (pcn := 11) dX7_newest_8 rfl (by decide) (fun q => absurd q (nI_pos (by omega))) (fun _ => ?_)
      refine aw_alo 0 (pcn := 12) rfl dX7_newest_11 rfl rfl (rf_some _) ?_
      refine aw_ilo 2 (pcn := 13) rfl dX7_newest_12 rfl rfl ?_
      refine aw_Vi (pcn := 16) (r_channelOf hW (S := _) (by omega)) mf_X7_channelOf mv_X7_channelOf hW.mo rfl ml_X7_86 rfl (by decide) (by decide) (by decide) (by exact Nat.le_of_ble_eq_true rfl) rfl dX7_newest_13 rfl (fun r h2 hq => ?_)
      obtain ⟨rfl, hq⟩ := hq
      obtain rfl := hq.symm
      refine aw_ilo 1 (pcn := 17) rfl dX7_newest_16 rfl rfl ?_
      refine aw_icmp_ne (t := 28) (pcn := 20) dX7_newest_17 rfl (by decide) (fun q1 => ?_) (fun q1 => ?_)
      · refine aw_iinc (v := nI j - nI 1) (pcn := 31) dX7_newest_28 rfl (by decide) rfl (by rw [show (Int32.ofInt (-1)) = -nI 1 by decide, Int32.sub_eq_add_neg]) ?_
        refine aw_goto (t := 7) dX7_newest_31 (by decide) ?_
        refine AW.post (Q' := qi fun r h' => r = nwT Tr c j ∧ h' = h) ?_ (ih (by omega))
        rintro v h' ⟨r, rfl, rfl, rfl⟩
        exact ⟨_, rfl, by rw [nwT, if_neg (by simp_all)], rfl⟩
      · refine aw_alo 0 (pcn := 21) rfl dX7_newest_20 rfl rfl (rf_some _) ?_
        refine aw_ilo 2 (pcn := 22) rfl dX7_newest_21 rfl rfl ?_
        refine aw_Vi (pcn := 25) (r_counts hW (S := j) (c := c) (by omega) hc8 (by assumption)) mf_X7_counts mv_X7_counts hW.mo rfl ml_X7_100 rfl (by decide) (by decide) (by decide) (by exact Nat.le_of_ble_eq_true rfl) rfl dX7_newest_22 rfl (fun r h2 hq => ?_)
        obtain ⟨rfl, hq⟩ := hq
        obtain rfl := hq.symm
        refine aw_if_neB (t := 34) (pcn := 28) dX7_newest_25 rfl (by decide) (fun q2 => ?_) (fun q2 => ?_)
        · refine aw_ilo 2 (pcn := 35) rfl dX7_newest_34 rfl rfl ?_
          exact aw_iret dX7_newest_35 rfl ⟨_, rfl, ⟨by rw [nwT, if_pos (by simp_all)], rfl⟩⟩
        · refine aw_iinc (v := nI j - nI 1) (pcn := 31) dX7_newest_28 rfl (by decide) rfl (by rw [show (Int32.ofInt (-1)) = -nI 1 by decide, Int32.sub_eq_add_neg]) ?_
          refine aw_goto (t := 7) dX7_newest_31 (by decide) ?_
          refine AW.post (Q' := qi fun r h' => r = nwT Tr c j ∧ h' = h) ?_ (ih (by omega))
          rintro v h' ⟨r, rfl, rfl, rfl⟩
          exact ⟨_, rfl, by rw [nwT, if_neg (by simp_all)], rfl⟩
  exact H n (Nat.le_refl _)
