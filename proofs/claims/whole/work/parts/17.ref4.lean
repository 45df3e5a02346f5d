/-- a lock comes to the place k -/
def lksT (T : TB) (s k p q z : Nat) (v ex : Int32) : TB := up (up (up (up (up (up T 19 (35 * s + 4 + p) (T 19 (35 * s + 4 + p) - v)) 19 (35 * s + 16 + 5 * k + 0) v) 19 (35 * s + 16 + 5 * k + 1) (nI p)) 19 (35 * s + 16 + 5 * k + 2) (nI q)) 19 (35 * s + 16 + 5 * k + 3) (nI z)) 19 (35 * s + 16 + 5 * k + 4) ex
def accT (T : TB) : Int32 := nI 0 + T 0 0 + T 0 1 + T 0 2 + T 0 3 + T 0 4 + T 0 5
def sumT (T : TB) : Nat → Int32 → Int32
  | 0, a => a
  | n + 1, a => sumT T n a + T 8 n
def outT (T : TB) (s : Nat) : Int32 := nI 0 + T 19 (35 * s + 10 + 0) + T 19 (35 * s + 10 + 1) + T 19 (35 * s + 10 + 2) + T 19 (35 * s + 10 + 3) + T 19 (35 * s + 10 + 4) + T 19 (35 * s + 10 + 5)
/-- outs are paid, by parties -/
def po1 (T : TB) (s p : Nat) : TB := up (up (up T 0 p (T 0 p + T 19 (35 * s + 10 + p))) 19 (35 * s + 4 + p) (T 19 (35 * s + 4 + p) - T 19 (35 * s + 10 + p))) 19 (35 * s + 10 + p) (nI 0)
def poT (T : TB) (s : Nat) : Nat → TB
  | 0 => T
  | p + 1 => po1 (poT T s p) s p
def toT (T : TB) (c s : Nat) : TB := if outT T s = 0 then endT T c s else up (up (poT T s 6) 8 c ((poT T s 6) 8 c - outT T s)) 19 (35 * s + 3) (nI 0)
/-! the reference: a channel's end, new states, what is taken out -/
set_option maxHeartbeats 8000000 in
set_option maxRecDepth 20000 in
theorem r_end {X : XG} {l : Launch} {Γ : NM} {ow : Nat → Nat × Nat} {h : Hp} {T Tr : TB} {nh : Nat} (hW : WD Γ ow h T Tr nh) {S c : Nat} (hS : S < 64) (hc8 : c < 8) (hf : ∀ k, k < 3 → ¬ Tr 19 (35 * S + 16 + 5 * k + 0) ≤ 0 → ∃ P, P < 6 ∧ Tr 19 (35 * S + 16 + 5 * k + 1) = nI P) : AM X l yX7_end cX7_end 4 (none) 2 0 0 [.ref (Γ 14 0), .int (nI c), .int (nI S)] h (qv fun h' => WD Γ ow h' T (endT Tr c S) nh) := by
  refine AM.of (by decide +kernel) (by simp [Value.category]) (Nat.le_of_ble_eq_true rfl) ?_
  show AW X l cX7_end RX7 "end" (none) 4 2 none _ 0 0 0 [some (.ref (Γ 14 0)), some (.int (nI c)), some (.int (nI S)), none] [] h
  refine aw_alo 0 (pcn := 1) rfl dX7_end_0 rfl rfl (rf_some _) ?_
  refine aw_getf (pcn := 4) fl_X7_25 dX7_end_1 rfl hW.mo rfl ?_
  refine aw_ilo 1 (pcn := 5) rfl dX7_end_4 rfl rfl ?_
  refine aw_iconst (v := nI 3) (pcn := 6) dX7_end_5 rfl (by decide) ?_
  refine aw_iastM (j := 9) (pcn := 7) hW dX7_end_6 rfl (show _ < 8 by omega) (fun h hW => ?_)
  refine aw_alo 0 (pcn := 8) rfl dX7_end_7 rfl rfl (rf_some _) ?_
  refine aw_getf (pcn := 11) fl_X7_28 dX7_end_8 rfl hW.mo rfl ?_
  refine aw_ilo 1 (pcn := 12) rfl dX7_end_11 rfl rfl ?_
  refine aw_ilo 2 (pcn := 13) rfl dX7_end_12 rfl rfl ?_
  refine aw_iastM (j := 10) (pcn := 14) hW dX7_end_13 rfl (show _ < 8 by omega) (fun h hW => ?_)
  refine aw_alo 0 (pcn := 15) rfl dX7_end_14 rfl rfl (rf_some _) ?_
  refine aw_getf (pcn := 18) fl_X7_34 dX7_end_15 rfl hW.mo rfl ?_
  refine aw_ilo 1 (pcn := 19) rfl dX7_end_18 rfl rfl ?_
  refine aw_iconst (v := nI 0) (pcn := 20) dX7_end_19 rfl (by decide) ?_
  refine aw_iastM (j := 12) (pcn := 21) hW dX7_end_20 rfl (show _ < 8 by omega) (fun h hW => ?_)
  refine aw_iconst (v := nI 0) (pcn := 22) dX7_end_21 rfl (by decide) ?_
  refine aw_ist 3 (pcn := 23) rfl dX7_end_22 rfl (by decide) ?_
  dsimp only [List.set_cons_zero, List.set_cons_succ]
  have hW : WD Γ ow h T (eShT (up (up (up Tr 9 c (nI 3)) 10 c (nI S)) 12 c (nI 0)) c S 0) nh := hW
  refine aw_ilo 3 (pcn := 24) rfl dX7_end_23 rfl rfl ?_
  refine aw_bipush (v := nI 6) (pcn := 26) dX7_end_24 rfl (by decide) ?_
  refine aw_icmp_ge (t := 79) (pcn := 29) dX7_end_26 rfl (by decide) (fun q1 => absurd q1 (by decide)) (fun q1 => ?_)
  refine aw_alo 0 (pcn := 30) rfl dX7_end_29 rfl rfl (rf_some _) ?_
  refine aw_getf (pcn := 33) fl_X7_7 dX7_end_30 rfl hW.mo rfl ?_
  refine aw_ilo 3 (pcn := 34) rfl dX7_end_33 rfl rfl ?_
  refine aw_dup2 (pcn := 35) dX7_end_34 rfl rfl rfl ?_
  refine aw_ialdM (j := 0) (pcn := 36) hW dX7_end_35 rfl (show _ < 6 by omega) ?_
  refine aw_alo 0 (pcn := 37) rfl dX7_end_36 rfl rfl (rf_some _) ?_
  refine aw_getf (pcn := 40) fl_X7_52 dX7_end_37 rfl hW.mo rfl ?_
  refine aw_bipush (v := nI 35) (pcn := 42) dX7_end_40 rfl (by decide) ?_
  refine aw_ilo 2 (pcn := 43) rfl dX7_end_42 rfl rfl ?_
  refine aw_imulN (pcn := 44) dX7_end_43 rfl ?_
  refine aw_iconst (v := nI 4) (pcn := 45) dX7_end_44 rfl (by decide) ?_
  refine aw_iaddN (pcn := 46) dX7_end_45 rfl ?_
  refine aw_ilo 3 (pcn := 47) rfl dX7_end_46 rfl rfl ?_
  refine aw_iaddN (pcn := 48) dX7_end_47 rfl ?_
  refine aw_ialdM (j := 19) (pcn := 49) hW dX7_end_48 rfl (show _ < 2240 by omega) ?_
  refine aw_iadd (pcn := 50) dX7_end_49 rfl ?_
  refine aw_iastM (j := 0) (pcn := 51) hW dX7_end_50 rfl (show _ < 6 by omega) (fun h hW => ?_)
  refine aw_alo 0 (pcn := 52) rfl dX7_end_51 rfl rfl (rf_some _) ?_
  refine aw_getf (pcn := 55) fl_X7_22 dX7_end_52 rfl hW.mo rfl ?_
  refine aw_ilo 1 (pcn := 56) rfl dX7_end_55 rfl rfl ?_
  refine aw_dup2 (pcn := 57) dX7_end_56 rfl rfl rfl ?_
  refine aw_ialdM (j := 8) (pcn := 58) hW dX7_end_57 rfl (show _ < 8 by omega) ?_
  refine aw_alo 0 (pcn := 59) rfl dX7_end_58 rfl rfl (rf_some _) ?_
  refine aw_getf (pcn := 62) fl_X7_52 dX7_end_59 rfl hW.mo rfl ?_
  refine aw_bipush (v := nI 35) (pcn := 64) dX7_end_62 rfl (by decide) ?_
  refine aw_ilo 2 (pcn := 65) rfl dX7_end_64 rfl rfl ?_
  refine aw_imulN (pcn := 66) dX7_end_65 rfl ?_
  refine aw_iconst (v := nI 4) (pcn := 67) dX7_end_66 rfl (by decide) ?_
  refine aw_iaddN (pcn := 68) dX7_end_67 rfl ?_
  refine aw_ilo 3 (pcn := 69) rfl dX7_end_68 rfl rfl ?_
  refine aw_iaddN (pcn := 70) dX7_end_69 rfl ?_
  refine aw_ialdM (j := 19) (pcn := 71) hW dX7_end_70 rfl (show _ < 2240 by omega) ?_
  refine aw_isub (pcn := 72) dX7_end_71 rfl ?_
  refine aw_iastM (j := 8) (pcn := 73) hW dX7_end_72 rfl (show _ < 8 by omega) (fun h hW => ?_)
  refine aw_iinc (v := nI 1) (pcn := 76) dX7_end_73 rfl (by decide) rfl (by decide) ?_
  dsimp only [List.set_cons_zero, List.set_cons_succ]
  refine aw_goto (t := 23) dX7_end_76 (by decide) ?_
  have hW : WD Γ ow h T (eShT (up (up (up Tr 9 c (nI 3)) 10 c (nI S)) 12 c (nI 0)) c S 1) nh := hW
  refine aw_ilo 3 (pcn := 24) rfl dX7_end_23 rfl rfl ?_
  refine aw_bipush (v := nI 6) (pcn := 26) dX7_end_24 rfl (by decide) ?_
  refine aw_icmp_ge (t := 79) (pcn := 29) dX7_end_26 rfl (by decide) (fun q2 => absurd q2 (by decide)) (fun q2 => ?_)
  refine aw_alo 0 (pcn := 30) rfl dX7_end_29 rfl rfl (rf_some _) ?_
  refine aw_getf (pcn := 33) fl_X7_7 dX7_end_30 rfl hW.mo rfl ?_
  refine aw_ilo 3 (pcn := 34) rfl dX7_end_33 rfl rfl ?_
  refine aw_dup2 (pcn := 35) dX7_end_34 rfl rfl rfl ?_
  refine aw_ialdM (j := 0) (pcn := 36) hW dX7_end_35 rfl (show _ < 6 by omega) ?_
  refine aw_alo 0 (pcn := 37) rfl dX7_end_36 rfl rfl (rf_some _) ?_
  refine aw_getf (pcn := 40) fl_X7_52 dX7_end_37 rfl hW.mo rfl ?_
  refine aw_bipush (v := nI 35) (pcn := 42) dX7_end_40 rfl (by decide) ?_
  refine aw_ilo 2 (pcn := 43) rfl dX7_end_42 rfl rfl ?_
  refine aw_imulN (pcn := 44) dX7_end_43 rfl ?_
  refine aw_iconst (v := nI 4) (pcn := 45) dX7_end_44 rfl (by decide) ?_
  refine aw_iaddN (pcn := 46) dX7_end_45 rfl ?_
  refine aw_ilo 3 (pcn := 47) rfl dX7_end_46 rfl rfl ?_
  refine aw_iaddN (pcn := 48) dX7_end_47 rfl ?_
  refine aw_ialdM (j := 19) (pcn := 49) hW dX7_end_48 rfl (show _ < 2240 by omega) ?_
  refine aw_iadd (pcn := 50) dX7_end_49 rfl ?_
  refine aw_iastM (j := 0) (pcn := 51) hW dX7_end_50 rfl (show _ < 6 by omega) (fun h hW => ?_)
  refine aw_alo 0 (pcn := 52) rfl dX7_end_51 rfl rfl (rf_some _) ?_
  refine aw_getf (pcn := 55) fl_X7_22 dX7_end_52 rfl hW.mo rfl ?_
  refine aw_ilo 1 (pcn := 56) rfl dX7_end_55 rfl rfl ?_
  refine aw_dup2 (pcn := 57) dX7_end_56 rfl rfl rfl ?_
  refine aw_ialdM (j := 8) (pcn := 58) hW dX7_end_57 rfl (show _ < 8 by omega) ?_
  refine aw_alo 0 (pcn := 59) rfl dX7_end_58 rfl rfl (rf_some _) ?_
  refine aw_getf (pcn := 62) fl_X7_52 dX7_end_59 rfl hW.mo rfl ?_
  refine aw_bipush (v := nI 35) (pcn := 64) dX7_end_62 rfl (by decide) ?_
  refine aw_ilo 2 (pcn := 65) rfl dX7_end_64 rfl rfl ?_
  refine aw_imulN (pcn := 66) dX7_end_65 rfl ?_
  refine aw_iconst (v := nI 4) (pcn := 67) dX7_end_66 rfl (by decide) ?_
  refine aw_iaddN (pcn := 68) dX7_end_67 rfl ?_
  refine aw_ilo 3 (pcn := 69) rfl dX7_end_68 rfl rfl ?_
  refine aw_iaddN (pcn := 70) dX7_end_69 rfl ?_
  refine aw_ialdM (j := 19) (pcn := 71) hW dX7_end_70 rfl (show _ < 2240 by omega) ?_
  refine aw_isub (pcn := 72) dX7_end_71 rfl ?_
  refine aw_iastM (j := 8) (pcn := 73) hW dX7_end_72 rfl (show _ < 8 by omega) (fun h hW => ?_)
  refine aw_iinc (v := nI 2) (pcn := 76) dX7_end_73 rfl (by decide) rfl (by decide) ?_
  dsimp only [List.set_cons_zero, List.set_cons_succ]
  refine aw_goto (t := 23) dX7_end_76 (by decide) ?_
  have hW : WD Γ ow h T (eShT (up (up (up Tr 9 c (nI 3)) 10 c (nI S)) 12 c (nI 0)) c S 2) nh := hW
  refine aw_ilo 3 (pcn := 24) rfl dX7_end_23 rfl rfl ?_
  refine aw_bipush (v := nI 6) (pcn := 26) dX7_end_24 rfl (by decide) ?_
  refine aw_icmp_ge (t := 79) (pcn := 29) dX7_end_26 rfl (by decide) (fun q3 => absurd q3 (by decide)) (fun q3 => ?_)
  refine aw_alo 0 (pcn := 30) rfl dX7_end_29 rfl rfl (rf_some _) ?_
  refine aw_getf (pcn := 33) fl_X7_7 dX7_end_30 rfl hW.mo rfl ?_
  refine aw_ilo 3 (pcn := 34) rfl dX7_end_33 rfl rfl ?_
  refine aw_dup2 (pcn := 35) dX7_end_34 rfl rfl rfl ?_
  refine aw_ialdM (j := 0) (pcn := 36) hW dX7_end_35 rfl (show _ < 6 by omega) ?_
  refine aw_alo 0 (pcn := 37) rfl dX7_end_36 rfl rfl (rf_some _) ?_
  refine aw_getf (pcn := 40) fl_X7_52 dX7_end_37 rfl hW.mo rfl ?_
  refine aw_bipush (v := nI 35) (pcn := 42) dX7_end_40 rfl (by decide) ?_
  refine aw_ilo 2 (pcn := 43) rfl dX7_end_42 rfl rfl ?_
  refine aw_imulN (pcn := 44) dX7_end_43 rfl ?_
  refine aw_iconst (v := nI 4) (pcn := 45) dX7_end_44 rfl (by decide) ?_
  refine aw_iaddN (pcn := 46) dX7_end_45 rfl ?_
  refine aw_ilo 3 (pcn := 47) rfl dX7_end_46 rfl rfl ?_
  refine aw_iaddN (pcn := 48) dX7_end_47 rfl ?_
  refine aw_ialdM (j := 19) (pcn := 49) hW dX7_end_48 rfl (show _ < 2240 by omega) ?_
  refine aw_iadd (pcn := 50) dX7_end_49 rfl ?_
  refine aw_iastM (j := 0) (pcn := 51) hW dX7_end_50 rfl (show _ < 6 by omega) (fun h hW => ?_)
  refine aw_alo 0 (pcn := 52) rfl dX7_end_51 rfl rfl (rf_some _) ?_
  refine aw_getf (pcn := 55) fl_X7_22 dX7_end_52 rfl hW.mo rfl ?_
  refine aw_ilo 1 (pcn := 56) rfl dX7_end_55 rfl rfl ?_
  refine aw_dup2 (pcn := 57) dX7_end_56 rfl rfl rfl ?_
  refine aw_ialdM (j := 8) (pcn := 58) hW dX7_end_57 rfl (show _ < 8 by omega) ?_
  refine aw_alo 0 (pcn := 59) rfl dX7_end_58 rfl rfl (rf_some _) ?_
  refine aw_getf (pcn := 62) fl_X7_52 dX7_end_59 rfl hW.mo rfl ?_
  refine aw_bipush (v := nI 35) (pcn := 64) dX7_end_62 rfl (by decide) ?_
  refine aw_ilo 2 (pcn := 65) rfl dX7_end_64 rfl rfl ?_
  refine aw_imulN (pcn := 66) dX7_end_65 rfl ?_
  refine aw_iconst (v := nI 4) (pcn := 67) dX7_end_66 rfl (by decide) ?_
  refine aw_iaddN (pcn := 68) dX7_end_67 rfl ?_
  refine aw_ilo 3 (pcn := 69) rfl dX7_end_68 rfl rfl ?_
  refine aw_iaddN (pcn := 70) dX7_end_69 rfl ?_
  refine aw_ialdM (j := 19) (pcn := 71) hW dX7_end_70 rfl (show _ < 2240 by omega) ?_
  refine aw_isub (pcn := 72) dX7_end_71 rfl ?_
  refine aw_iastM (j := 8) (pcn := 73) hW dX7_end_72 rfl (show _ < 8 by omega) (fun h hW => ?_)
  refine aw_iinc (v := nI 3) (pcn := 76) dX7_end_73 rfl (by decide) rfl (by decide) ?_
  dsimp only [List.set_cons_zero, List.set_cons_succ]
  refine aw_goto (t := 23) dX7_end_76 (by decide) ?_
  have hW : WD Γ ow h T (eShT (up (up (up Tr 9 c (nI 3)) 10 c (nI S)) 12 c (nI 0)) c S 3) nh := hW
  refine aw_ilo 3 (pcn := 24) rfl dX7_end_23 rfl rfl ?_
  refine aw_bipush (v := nI 6) (pcn := 26) dX7_end_24 rfl (by decide) ?_
  refine aw_icmp_ge (t := 79) (pcn := 29) dX7_end_26 rfl (by decide) (fun q4 => absurd q4 (by decide)) (fun q4 => ?_)
  refine aw_alo 0 (pcn := 30) rfl dX7_end_29 rfl rfl (rf_some _) ?_
  refine aw_getf (pcn := 33) fl_X7_7 dX7_end_30 rfl hW.mo rfl ?_
  refine aw_ilo 3 (pcn := 34) rfl dX7_end_33 rfl rfl ?_
  refine aw_dup2 (pcn := 35) dX7_end_34 rfl rfl rfl ?_
  refine aw_ialdM (j := 0) (pcn := 36) hW dX7_end_35 rfl (show _ < 6 by omega) ?_
  refine aw_alo 0 (pcn := 37) rfl dX7_end_36 rfl rfl (rf_some _) ?_
  refine aw_getf (pcn := 40) fl_X7_52 dX7_end_37 rfl hW.mo rfl ?_
  refine aw_bipush (v := nI 35) (pcn := 42) dX7_end_40 rfl (by decide) ?_
  refine aw_ilo 2 (pcn := 43) rfl dX7_end_42 rfl rfl ?_
  refine aw_imulN (pcn := 44) dX7_end_43 rfl ?_
  refine aw_iconst (v := nI 4) (pcn := 45) dX7_end_44 rfl (by decide) ?_
  refine aw_iaddN (pcn := 46) dX7_end_45 rfl ?_
  refine aw_ilo 3 (pcn := 47) rfl dX7_end_46 rfl rfl ?_
  refine aw_iaddN (pcn := 48) dX7_end_47 rfl ?_
  refine aw_ialdM (j := 19) (pcn := 49) hW dX7_end_48 rfl (show _ < 2240 by omega) ?_
  refine aw_iadd (pcn := 50) dX7_end_49 rfl ?_
  refine aw_iastM (j := 0) (pcn := 51) hW dX7_end_50 rfl (show _ < 6 by omega) (fun h hW => ?_)
  refine aw_alo 0 (pcn := 52) rfl dX7_end_51 rfl rfl (rf_some _) ?_
  refine aw_getf (pcn := 55) fl_X7_22 dX7_end_52 rfl hW.mo rfl ?_
  refine aw_ilo 1 (pcn := 56) rfl dX7_end_55 rfl rfl ?_
  refine aw_dup2 (pcn := 57) dX7_end_56 rfl rfl rfl ?_
  refine aw_ialdM (j := 8) (pcn := 58) hW dX7_end_57 rfl (show _ < 8 by omega) ?_
  refine aw_alo 0 (pcn := 59) rfl dX7_end_58 rfl rfl (rf_some _) ?_
  refine aw_getf (pcn := 62) fl_X7_52 dX7_end_59 rfl hW.mo rfl ?_
  refine aw_bipush (v := nI 35) (pcn := 64) dX7_end_62 rfl (by decide) ?_
  refine aw_ilo 2 (pcn := 65) rfl dX7_end_64 rfl rfl ?_
  refine aw_imulN (pcn := 66) dX7_end_65 rfl ?_
  refine aw_iconst (v := nI 4) (pcn := 67) dX7_end_66 rfl (by decide) ?_
  refine aw_iaddN (pcn := 68) dX7_end_67 rfl ?_
  refine aw_ilo 3 (pcn := 69) rfl dX7_end_68 rfl rfl ?_
  refine aw_iaddN (pcn := 70) dX7_end_69 rfl ?_
  refine aw_ialdM (j := 19) (pcn := 71) hW dX7_end_70 rfl (show _ < 2240 by omega) ?_
  refine aw_isub (pcn := 72) dX7_end_71 rfl ?_
  refine aw_iastM (j := 8) (pcn := 73) hW dX7_end_72 rfl (show _ < 8 by omega) (fun h hW => ?_)
  refine aw_iinc (v := nI 4) (pcn := 76) dX7_end_73 rfl (by decide) rfl (by decide) ?_
  dsimp only [List.set_cons_zero, List.set_cons_succ]
  refine aw_goto (t := 23) dX7_end_76 (by decide) ?_
  have hW : WD Γ ow h T (eShT (up (up (up Tr 9 c (nI 3)) 10 c (nI S)) 12 c (nI 0)) c S 4) nh := hW
  refine aw_ilo 3 (pcn := 24) rfl dX7_end_23 rfl rfl ?_
  refine aw_bipush (v := nI 6) (pcn := 26) dX7_end_24 rfl (by decide) ?_
  refine aw_icmp_ge (t := 79) (pcn := 29) dX7_end_26 rfl (by decide) (fun q5 => absurd q5 (by decide)) (fun q5 => ?_)
  refine aw_alo 0 (pcn := 30) rfl dX7_end_29 rfl rfl (rf_some _) ?_
  refine aw_getf (pcn := 33) fl_X7_7 dX7_end_30 rfl hW.mo rfl ?_
  refine aw_ilo 3 (pcn := 34) rfl dX7_end_33 rfl rfl ?_
  refine aw_dup2 (pcn := 35) dX7_end_34 rfl rfl rfl ?_
  refine aw_ialdM (j := 0) (pcn := 36) hW dX7_end_35 rfl (show _ < 6 by omega) ?_
  refine aw_alo 0 (pcn := 37) rfl dX7_end_36 rfl rfl (rf_some _) ?_
  refine aw_getf (pcn := 40) fl_X7_52 dX7_end_37 rfl hW.mo rfl ?_
  refine aw_bipush (v := nI 35) (pcn := 42) dX7_end_40 rfl (by decide) ?_
  refine aw_ilo 2 (pcn := 43) rfl dX7_end_42 rfl rfl ?_
  refine aw_imulN (pcn := 44) dX7_end_43 rfl ?_
  refine aw_iconst (v := nI 4) (pcn := 45) dX7_end_44 rfl (by decide) ?_
  refine aw_iaddN (pcn := 46) dX7_end_45 rfl ?_
  refine aw_ilo 3 (pcn := 47) rfl dX7_end_46 rfl rfl ?_
  refine aw_iaddN (pcn := 48) dX7_end_47 rfl ?_
  refine aw_ialdM (j := 19) (pcn := 49) hW dX7_end_48 rfl (show _ < 2240 by omega) ?_
  refine aw_iadd (pcn := 50) dX7_end_49 rfl ?_
  refine aw_iastM (j := 0) (pcn := 51) hW dX7_end_50 rfl (show _ < 6 by omega) (fun h hW => ?_)
  refine aw_alo 0 (pcn := 52) rfl dX7_end_51 rfl rfl (rf_some _) ?_
  refine aw_getf (pcn := 55) fl_X7_22 dX7_end_52 rfl hW.mo rfl ?_
  refine aw_ilo 1 (pcn := 56) rfl dX7_end_55 rfl rfl ?_
  refine aw_dup2 (pcn := 57) dX7_end_56 rfl rfl rfl ?_
  refine aw_ialdM (j := 8) (pcn := 58) hW dX7_end_57 rfl (show _ < 8 by omega) ?_
  refine aw_alo 0 (pcn := 59) rfl dX7_end_58 rfl rfl (rf_some _) ?_
  refine aw_getf (pcn := 62) fl_X7_52 dX7_end_59 rfl hW.mo rfl ?_
  refine aw_bipush (v := nI 35) (pcn := 64) dX7_end_62 rfl (by decide) ?_
  refine aw_ilo 2 (pcn := 65) rfl dX7_end_64 rfl rfl ?_
  refine aw_imulN (pcn := 66) dX7_end_65 rfl ?_
  refine aw_iconst (v := nI 4) (pcn := 67) dX7_end_66 rfl (by decide) ?_
  refine aw_iaddN (pcn := 68) dX7_end_67 rfl ?_
  refine aw_ilo 3 (pcn := 69) rfl dX7_end_68 rfl rfl ?_
  refine aw_iaddN (pcn := 70) dX7_end_69 rfl ?_
  refine aw_ialdM (j := 19) (pcn := 71) hW dX7_end_70 rfl (show _ < 2240 by omega) ?_
  refine aw_isub (pcn := 72) dX7_end_71 rfl ?_
  refine aw_iastM (j := 8) (pcn := 73) hW dX7_end_72 rfl (show _ < 8 by omega) (fun h hW => ?_)
  refine aw_iinc (v := nI 5) (pcn := 76) dX7_end_73 rfl (by decide) rfl (by decide) ?_
  dsimp only [List.set_cons_zero, List.set_cons_succ]
  refine aw_goto (t := 23) dX7_end_76 (by decide) ?_
  have hW : WD Γ ow h T (eShT (up (up (up Tr 9 c (nI 3)) 10 c (nI S)) 12 c (nI 0)) c S 5) nh := hW
  refine aw_ilo 3 (pcn := 24) rfl dX7_end_23 rfl rfl ?_
  refine aw_bipush (v := nI 6) (pcn := 26) dX7_end_24 rfl (by decide) ?_
  refine aw_icmp_ge (t := 79) (pcn := 29) dX7_end_26 rfl (by decide) (fun q6 => absurd q6 (by decide)) (fun q6 => ?_)
  refine aw_alo 0 (pcn := 30) rfl dX7_end_29 rfl rfl (rf_some _) ?_
  refine aw_getf (pcn := 33) fl_X7_7 dX7_end_30 rfl hW.mo rfl ?_
  refine aw_ilo 3 (pcn := 34) rfl dX7_end_33 rfl rfl ?_
  refine aw_dup2 (pcn := 35) dX7_end_34 rfl rfl rfl ?_
  refine aw_ialdM (j := 0) (pcn := 36) hW dX7_end_35 rfl (show _ < 6 by omega) ?_
  refine aw_alo 0 (pcn := 37) rfl dX7_end_36 rfl rfl (rf_some _) ?_
  refine aw_getf (pcn := 40) fl_X7_52 dX7_end_37 rfl hW.mo rfl ?_
  refine aw_bipush (v := nI 35) (pcn := 42) dX7_end_40 rfl (by decide) ?_
  refine aw_ilo 2 (pcn := 43) rfl dX7_end_42 rfl rfl ?_
  refine aw_imulN (pcn := 44) dX7_end_43 rfl ?_
  refine aw_iconst (v := nI 4) (pcn := 45) dX7_end_44 rfl (by decide) ?_
  refine aw_iaddN (pcn := 46) dX7_end_45 rfl ?_
  refine aw_ilo 3 (pcn := 47) rfl dX7_end_46 rfl rfl ?_
  refine aw_iaddN (pcn := 48) dX7_end_47 rfl ?_
  refine aw_ialdM (j := 19) (pcn := 49) hW dX7_end_48 rfl (show _ < 2240 by omega) ?_
  refine aw_iadd (pcn := 50) dX7_end_49 rfl ?_
  refine aw_iastM (j := 0) (pcn := 51) hW dX7_end_50 rfl (show _ < 6 by omega) (fun h hW => ?_)
  refine aw_alo 0 (pcn := 52) rfl dX7_end_51 rfl rfl (rf_some _) ?_
  refine aw_getf (pcn := 55) fl_X7_22 dX7_end_52 rfl hW.mo rfl ?_
  refine aw_ilo 1 (pcn := 56) rfl dX7_end_55 rfl rfl ?_
  refine aw_dup2 (pcn := 57) dX7_end_56 rfl rfl rfl ?_
  refine aw_ialdM (j := 8) (pcn := 58) hW dX7_end_57 rfl (show _ < 8 by omega) ?_
  refine aw_alo 0 (pcn := 59) rfl dX7_end_58 rfl rfl (rf_some _) ?_
  refine aw_getf (pcn := 62) fl_X7_52 dX7_end_59 rfl hW.mo rfl ?_
  refine aw_bipush (v := nI 35) (pcn := 64) dX7_end_62 rfl (by decide) ?_
  refine aw_ilo 2 (pcn := 65) rfl dX7_end_64 rfl rfl ?_
  refine aw_imulN (pcn := 66) dX7_end_65 rfl ?_
  refine aw_iconst (v := nI 4) (pcn := 67) dX7_end_66 rfl (by decide) ?_
  refine aw_iaddN (pcn := 68) dX7_end_67 rfl ?_
  refine aw_ilo 3 (pcn := 69) rfl dX7_end_68 rfl rfl ?_
  refine aw_iaddN (pcn := 70) dX7_end_69 rfl ?_
  refine aw_ialdM (j := 19) (pcn := 71) hW dX7_end_70 rfl (show _ < 2240 by omega) ?_
  refine aw_isub (pcn := 72) dX7_end_71 rfl ?_
  refine aw_iastM (j := 8) (pcn := 73) hW dX7_end_72 rfl (show _ < 8 by omega) (fun h hW => ?_)
  refine aw_iinc (v := nI 6) (pcn := 76) dX7_end_73 rfl (by decide) rfl (by decide) ?_
  dsimp only [List.set_cons_zero, List.set_cons_succ]
  refine aw_goto (t := 23) dX7_end_76 (by decide) ?_
  have hW : WD Γ ow h T (eShT (up (up (up Tr 9 c (nI 3)) 10 c (nI S)) 12 c (nI 0)) c S 6) nh := hW
  refine aw_ilo 3 (pcn := 24) rfl dX7_end_23 rfl rfl ?_
  refine aw_bipush (v := nI 6) (pcn := 26) dX7_end_24 rfl (by decide) ?_
  refine aw_icmp_ge (t := 79) (pcn := 29) dX7_end_26 rfl (by decide) (fun q7 => ?_) (fun q7 => absurd (by decide) q7)
  refine aw_iconst (v := nI 0) (pcn := 80) dX7_end_79 rfl (by decide) ?_
  refine aw_ist 3 (pcn := 81) rfl dX7_end_80 rfl (by decide) ?_
  dsimp only [List.set_cons_zero, List.set_cons_succ]
  have body : ∀ (k : Nat), k < 3 → ∀ (T1 : TB) (h : Hp), WD Γ ow h T T1 nh → T1 10 c = nI S → (∀ x, T1 19 x = Tr 19 x) → (∀ h, WD Γ ow h T (eLkT T1 c S k) nh → AW X l cX7_end RX7 "end" (none) 4 2 none (qv fun h' => WD Γ ow h' T (endT Tr c S) nh) 0 0 81 [some (.ref (Γ 14 0)), some (.int (nI c)), some (.int (nI S)), some (.int (nI (k + 1)))] [] h) → AW X l cX7_end RX7 "end" (none) 4 2 none (qv fun h' => WD Γ ow h' T (endT Tr c S) nh) 0 0 81 [some (.ref (Γ 14 0)), some (.int (nI c)), some (.int (nI S)), some (.int (nI (k)))] [] h := by
    intro k hk T1 h hW h10 h19 kk
    refine aw_ilo 3 (pcn := 82) rfl dX7_end_81 rfl rfl ?_
    refine aw_iconst (v := nI 3) (pcn := 83) dX7_end_82 rfl (by decide) ?_
    refine aw_icmp_ge (t := 156) (pcn := 86) dX7_end_83 rfl (by decide) (fun q => absurd q (nI_ge hk (by decide))) (fun _ => ?_)
    refine aw_alo 0 (pcn := 87) rfl dX7_end_86 rfl rfl (rf_some _) ?_
    refine aw_getf (pcn := 90) fl_X7_52 dX7_end_87 rfl hW.mo rfl ?_
    refine aw_ilo 2 (pcn := 91) rfl dX7_end_90 rfl rfl ?_
    refine aw_ilo 3 (pcn := 92) rfl dX7_end_91 rfl rfl ?_
    refine aw_Si (pcn := 95) (r_lockAt _ _) mf_X7_lockAt mv_X7_lockAt ml_X7_93 rfl (by decide) (by decide) (by decide) (by exact Nat.le_of_ble_eq_true rfl) rfl dX7_end_92 rfl (fun r h2 hq => ?_)
    obtain ⟨rfl, hq⟩ := hq
    obtain rfl := hq.symm
    refine aw_iconst (v := nI 0) (pcn := 96) dX7_end_95 rfl (by decide) ?_
    refine aw_iaddN (pcn := 97) dX7_end_96 rfl ?_
    refine aw_ialdM (j := 19) (pcn := 98) hW dX7_end_97 rfl (show _ < 2240 by omega) ?_
    refine aw_if_le (t := 150) (pcn := 101) dX7_end_98 rfl (by decide) (fun q8 => ?_) (fun q8 => ?_)
    · refine aw_iincN (pcn := 153) dX7_end_150 rfl (by decide) rfl ?_
      dsimp only [List.set_cons_zero, List.set_cons_succ]
      refine aw_goto (t := 81) dX7_end_153 (by decide) ?_
      refine kk h ?_
      first | (rw [eLkT, if_pos (by assumption)]; exact hW) | (rw [eLkT, if_neg (by assumption), if_pos (Int32.not_lt.mp (by assumption)), show T1 19 (35 * S + 16 + 5 * k + 1) = nI P0 from (h19 _).trans hP1, show ix (nI P0) = P0 from nI_clamp (by omega)]; exact hW) | (rw [eLkT, if_neg (by assumption), if_neg (Int32.not_le.mpr (by assumption))]; exact hW)
    · refine aw_alo 0 (pcn := 102) rfl dX7_end_101 rfl rfl (rf_some _) ?_
      refine aw_getf (pcn := 105) fl_X7_34 dX7_end_102 rfl hW.mo rfl ?_
      refine aw_ilo 1 (pcn := 106) rfl dX7_end_105 rfl rfl ?_
      refine aw_dup2 (pcn := 107) dX7_end_106 rfl rfl rfl ?_
      refine aw_ialdM (j := 12) (pcn := 108) hW dX7_end_107 rfl (show _ < 8 by omega) ?_
      refine aw_iconst (v := nI 1) (pcn := 109) dX7_end_108 rfl (by decide) ?_
      refine aw_ilo 3 (pcn := 110) rfl dX7_end_109 rfl rfl ?_
      refine aw_ishl (pcn := 111) dX7_end_110 rfl ?_
      refine aw_iadd (pcn := 112) dX7_end_111 rfl ?_
      refine aw_iastM (j := 12) (pcn := 113) hW dX7_end_112 rfl (show _ < 8 by omega) (fun h hW => ?_)
      refine aw_alo 0 (pcn := 114) rfl dX7_end_113 rfl rfl (rf_some _) ?_
      refine aw_getf (pcn := 117) fl_X7_52 dX7_end_114 rfl hW.mo rfl ?_
      refine aw_ilo 2 (pcn := 118) rfl dX7_end_117 rfl rfl ?_
      refine aw_ilo 3 (pcn := 119) rfl dX7_end_118 rfl rfl ?_
      refine aw_Si (pcn := 122) (r_lockAt _ _) mf_X7_lockAt mv_X7_lockAt ml_X7_93 rfl (by decide) (by decide) (by decide) (by exact Nat.le_of_ble_eq_true rfl) rfl dX7_end_119 rfl (fun r h2 hq => ?_)
      obtain ⟨rfl, hq⟩ := hq
      obtain rfl := hq.symm
      refine aw_iconst (v := nI 4) (pcn := 123) dX7_end_122 rfl (by decide) ?_
      refine aw_iaddN (pcn := 124) dX7_end_123 rfl ?_
      refine aw_ialdM (j := 19) (pcn := 125) hW dX7_end_124 rfl (show _ < 2240 by omega) ?_
      refine aw_alo 0 (pcn := 126) rfl dX7_end_125 rfl rfl (rf_some _) ?_
      refine aw_getf (pcn := 129) fl_X7_103 dX7_end_126 rfl hW.mo rfl ?_
      refine aw_icmp_gt (t := 150) (pcn := 132) dX7_end_129 rfl (by decide) (fun q9 => ?_) (fun q9 => ?_)
      · refine aw_iincN (pcn := 153) dX7_end_150 rfl (by decide) rfl ?_
        dsimp only [List.set_cons_zero, List.set_cons_succ]
        refine aw_goto (t := 81) dX7_end_153 (by decide) ?_
        refine kk h ?_
        first | (rw [eLkT, if_pos (by assumption)]; exact hW) | (rw [eLkT, if_neg (by assumption), if_pos (Int32.not_lt.mp (by assumption)), show T1 19 (35 * S + 16 + 5 * k + 1) = nI P0 from (h19 _).trans hP1, show ix (nI P0) = P0 from nI_clamp (by omega)]; exact hW) | (rw [eLkT, if_neg (by assumption), if_neg (Int32.not_le.mpr (by assumption))]; exact hW)
      · refine aw_alo 0 (pcn := 133) rfl dX7_end_132 rfl rfl (rf_some _) ?_
        refine aw_ilo 1 (pcn := 134) rfl dX7_end_133 rfl rfl ?_
        refine aw_ilo 3 (pcn := 135) rfl dX7_end_134 rfl rfl ?_
        refine aw_alo 0 (pcn := 136) rfl dX7_end_135 rfl rfl (rf_some _) ?_
        refine aw_getf (pcn := 139) fl_X7_52 dX7_end_136 rfl hW.mo rfl ?_
        refine aw_ilo 2 (pcn := 140) rfl dX7_end_139 rfl rfl ?_
        refine aw_ilo 3 (pcn := 141) rfl dX7_end_140 rfl rfl ?_
        refine aw_Si (pcn := 144) (r_lockAt _ _) mf_X7_lockAt mv_X7_lockAt ml_X7_93 rfl (by decide) (by decide) (by decide) (by exact Nat.le_of_ble_eq_true rfl) rfl dX7_end_141 rfl (fun r h2 hq => ?_)
        obtain ⟨rfl, hq⟩ := hq
        obtain rfl := hq.symm
        refine aw_iconst (v := nI 1) (pcn := 145) dX7_end_144 rfl (by decide) ?_
        refine aw_iaddN (pcn := 146) dX7_end_145 rfl ?_
        refine aw_ialdM (j := 19) (pcn := 147) hW dX7_end_146 rfl (show _ < 2240 by omega) ?_
        obtain ⟨P0, hP, hP1⟩ := hf k hk (by rw [← h19]; assumption)
        rw [show (up T1 12 c (T1 12 c + nI 1 <<< (nI k &&& 31))) 19 (35 * S + 16 + 5 * k + 1) = nI P0 from (h19 _).trans hP1]
        refine aw_Vv (pcn := 150) (r_pays hW (c := c) (b := S) (K := k) (P0 := P0) hc8 (by rw [up_j _ _ _ _ (by decide)]; exact h10) hS hk hP) mf_X7_pays mv_X7_pays hW.mo rfl ml_X7_106 rfl (by decide) (by decide) (by decide) (by exact Nat.le_of_ble_eq_true rfl) rfl dX7_end_147 rfl (fun h hW => ?_)
        refine aw_iincN (pcn := 153) dX7_end_150 rfl (by decide) rfl ?_
        dsimp only [List.set_cons_zero, List.set_cons_succ]
        refine aw_goto (t := 81) dX7_end_153 (by decide) ?_
        refine kk h ?_
        first | (rw [eLkT, if_pos (by assumption)]; exact hW) | (rw [eLkT, if_neg (by assumption), if_pos (Int32.not_lt.mp (by assumption)), show T1 19 (35 * S + 16 + 5 * k + 1) = nI P0 from (h19 _).trans hP1, show ix (nI P0) = P0 from nI_clamp (by omega)]; exact hW) | (rw [eLkT, if_neg (by assumption), if_neg (Int32.not_le.mpr (by assumption))]; exact hW)
  have g10 : (eShT (up (up (up Tr 9 c (nI 3)) 10 c (nI S)) 12 c (nI 0)) c S 6) 10 c = nI S := by rw [eShT_j _ _ _ _ _ (by decide) (by decide), up_j _ _ _ _ (by decide), up_s]
  have g19 : ∀ x, (eShT (up (up (up Tr 9 c (nI 3)) 10 c (nI S)) 12 c (nI 0)) c S 6) 19 x = Tr 19 x := fun x => by rw [eShT_j _ _ _ _ _ (by decide) (by decide), up_j _ _ _ _ (by decide), up_j _ _ _ _ (by decide), up_j _ _ _ _ (by decide)]
  have l10 : ∀ T1 k, (T1 : TB) 10 c = nI S → eLkT T1 c S k 10 c = nI S := fun T1 k q => by rw [eLkT_j _ _ _ _ _ (by decide) (by decide) (by decide)]; exact q
  have l19 : ∀ T1 k, (∀ x, (T1 : TB) 19 x = Tr 19 x) → ∀ x, eLkT T1 c S k 19 x = Tr 19 x := fun T1 k q x => by rw [eLkT_j _ _ _ _ _ (by decide) (by decide) (by decide)]; exact q x
  refine body 0 (by decide) _ h hW g10 g19 (fun h hW => ?_)
  refine body 1 (by decide) _ h hW (l10 _ 0 g10) (l19 _ 0 g19) (fun h hW => ?_)
  refine body 2 (by decide) _ h hW (l10 _ 1 (l10 _ 0 g10)) (l19 _ 1 (l19 _ 0 g19)) (fun h hW => ?_)
  refine aw_ilo 3 (pcn := 82) rfl dX7_end_81 rfl rfl ?_
  refine aw_iconst (v := nI 3) (pcn := 83) dX7_end_82 rfl (by decide) ?_
  refine aw_icmp_ge (t := 156) (pcn := 86) dX7_end_83 rfl (by decide) (fun q10 => ?_) (fun q10 => absurd (by decide) q10)
  refine aw_alo 0 (pcn := 157) rfl dX7_end_156 rfl rfl (rf_some _) ?_
  refine aw_getf (pcn := 160) fl_X7_37 dX7_end_157 rfl hW.mo rfl ?_
  refine aw_ilo 1 (pcn := 161) rfl dX7_end_160 rfl rfl ?_
  refine aw_alo 0 (pcn := 162) rfl dX7_end_161 rfl rfl (rf_some _) ?_
  refine aw_getf (pcn := 165) fl_X7_52 dX7_end_162 rfl hW.mo rfl ?_
  refine aw_bipush (v := nI 35) (pcn := 167) dX7_end_165 rfl (by decide) ?_
  refine aw_ilo 2 (pcn := 168) rfl dX7_end_167 rfl rfl ?_
  refine aw_imulN (pcn := 169) dX7_end_168 rfl ?_
  refine aw_bipush (v := nI 31) (pcn := 171) dX7_end_169 rfl (by decide) ?_
  refine aw_iaddN (pcn := 172) dX7_end_171 rfl ?_
  refine aw_ialdM (j := 19) (pcn := 173) hW dX7_end_172 rfl (show _ < 2240 by omega) ?_
  refine aw_iastM (j := 13) (pcn := 174) hW dX7_end_173 rfl (show _ < 8 by omega) (fun h hW => ?_)
  refine aw_alo 0 (pcn := 175) rfl dX7_end_174 rfl rfl (rf_some _) ?_
  refine aw_getf (pcn := 178) fl_X7_40 dX7_end_175 rfl hW.mo rfl ?_
  refine aw_ilo 1 (pcn := 179) rfl dX7_end_178 rfl rfl ?_
  refine aw_alo 0 (pcn := 180) rfl dX7_end_179 rfl rfl (rf_some _) ?_
  refine aw_getf (pcn := 183) fl_X7_52 dX7_end_180 rfl hW.mo rfl ?_
  refine aw_bipush (v := nI 35) (pcn := 185) dX7_end_183 rfl (by decide) ?_
  refine aw_ilo 2 (pcn := 186) rfl dX7_end_185 rfl rfl ?_
  refine aw_imulN (pcn := 187) dX7_end_186 rfl ?_
  refine aw_bipush (v := nI 32) (pcn := 189) dX7_end_187 rfl (by decide) ?_
  refine aw_iaddN (pcn := 190) dX7_end_189 rfl ?_
  refine aw_ialdM (j := 19) (pcn := 191) hW dX7_end_190 rfl (show _ < 2240 by omega) ?_
  refine aw_iastM (j := 14) (pcn := 192) hW dX7_end_191 rfl (show _ < 8 by omega) (fun h hW => ?_)
  refine aw_alo 0 (pcn := 193) rfl dX7_end_192 rfl rfl (rf_some _) ?_
  refine aw_getf (pcn := 196) fl_X7_43 dX7_end_193 rfl hW.mo rfl ?_
  refine aw_ilo 1 (pcn := 197) rfl dX7_end_196 rfl rfl ?_
  refine aw_alo 0 (pcn := 198) rfl dX7_end_197 rfl rfl (rf_some _) ?_
  refine aw_getf (pcn := 201) fl_X7_52 dX7_end_198 rfl hW.mo rfl ?_
  refine aw_bipush (v := nI 35) (pcn := 203) dX7_end_201 rfl (by decide) ?_
  refine aw_ilo 2 (pcn := 204) rfl dX7_end_203 rfl rfl ?_
  refine aw_imulN (pcn := 205) dX7_end_204 rfl ?_
  refine aw_bipush (v := nI 33) (pcn := 207) dX7_end_205 rfl (by decide) ?_
  refine aw_iaddN (pcn := 208) dX7_end_207 rfl ?_
  refine aw_ialdM (j := 19) (pcn := 209) hW dX7_end_208 rfl (show _ < 2240 by omega) ?_
  refine aw_iastM (j := 15) (pcn := 210) hW dX7_end_209 rfl (show _ < 8 by omega) (fun h hW => ?_)
  refine aw_alo 0 (pcn := 211) rfl dX7_end_210 rfl rfl (rf_some _) ?_
  refine aw_getf (pcn := 214) fl_X7_46 dX7_end_211 rfl hW.mo rfl ?_
  refine aw_ilo 1 (pcn := 215) rfl dX7_end_214 rfl rfl ?_
  refine aw_alo 0 (pcn := 216) rfl dX7_end_215 rfl rfl (rf_some _) ?_
  refine aw_getf (pcn := 219) fl_X7_52 dX7_end_216 rfl hW.mo rfl ?_
  refine aw_bipush (v := nI 35) (pcn := 221) dX7_end_219 rfl (by decide) ?_
  refine aw_ilo 2 (pcn := 222) rfl dX7_end_221 rfl rfl ?_
  refine aw_imulN (pcn := 223) dX7_end_222 rfl ?_
  refine aw_bipush (v := nI 34) (pcn := 225) dX7_end_223 rfl (by decide) ?_
  refine aw_iaddN (pcn := 226) dX7_end_225 rfl ?_
  refine aw_ialdM (j := 19) (pcn := 227) hW dX7_end_226 rfl (show _ < 2240 by omega) ?_
  refine aw_iastM (j := 16) (pcn := 228) hW dX7_end_227 rfl (show _ < 8 by omega) (fun h hW => ?_)
  refine aw_alo 0 (pcn := 229) rfl dX7_end_228 rfl rfl (rf_some _) ?_
  refine aw_getf (pcn := 232) fl_X7_49 dX7_end_229 rfl hW.mo rfl ?_
  refine aw_ilo 1 (pcn := 233) rfl dX7_end_232 rfl rfl ?_
  refine aw_alo 0 (pcn := 234) rfl dX7_end_233 rfl rfl (rf_some _) ?_
  refine aw_getf (pcn := 237) fl_X7_103 dX7_end_234 rfl hW.mo rfl ?_
  refine aw_alo 0 (pcn := 238) rfl dX7_end_237 rfl rfl (rf_some _) ?_
  refine aw_getf (pcn := 241) fl_X7_19 dX7_end_238 rfl hW.mo rfl ?_
  refine aw_ilo 1 (pcn := 242) rfl dX7_end_241 rfl rfl ?_
  refine aw_ialdM (j := 7) (pcn := 243) hW dX7_end_242 rfl (show _ < 8 by omega) ?_
  refine aw_iadd (pcn := 244) dX7_end_243 rfl ?_
  refine aw_iastM (j := 17) (pcn := 245) hW dX7_end_244 rfl (show _ < 8 by omega) (fun h hW => ?_)
  exact aw_ret dX7_end_245 rfl ⟨rfl, by
      unfold endT eGhT
      exact ((hW.ghost (j := 25) (i := c) (v := -1) (by omega)).ghost (j := 26) (i := c) (v := 0) (by omega)).ghost (j := 27) (i := c) (by omega)⟩

set_option maxHeartbeats 8000000 in
set_option maxRecDepth 20000 in
theorem r_locks {X : XG} {l : Launch} {Γ : NM} {ow : Nat → Nat × Nat} {h : Hp} {T Tr : TB} {nh : Nat} (hW : WD Γ ow h T Tr nh) {S K P0 P1 Z : Nat} (hS : S < 64) (hP0 : P0 < 6) (hK : K < 3) (hep : epT Tr S = nI K) (v ex : Int32) : AM X l yX7_locks cX7_locks 9 (some .int) 2 0 0 [.ref (Γ 14 0), .int (nI S), .int (nI P0), .int (nI P1), .int v, .int (nI Z), .int ex] h (qi fun r h' => r = nI K ∧ WD Γ ow h' T (lksT Tr S K P0 P1 Z v ex) nh) := by
  refine AM.of (by decide +kernel) (by simp [Value.category]) (Nat.le_of_ble_eq_true rfl) ?_
  show AW X l cX7_locks RX7 "locks" (some .int) 9 2 none _ 0 0 0 [some (.ref (Γ 14 0)), some (.int (nI S)), some (.int (nI P0)), some (.int (nI P1)), some (.int v), some (.int (nI Z)), some (.int ex), none, none] [] h
  refine aw_alo 0 (pcn := 1) rfl dX7_locks_0 rfl rfl (rf_some _) ?_
  refine aw_ilo 1 (pcn := 2) rfl dX7_locks_1 rfl rfl ?_
  refine aw_Vi (pcn := 5) (r_emptyPlace hW (S := S) hS) mf_X7_emptyPlace mv_X7_emptyPlace hW.mo rfl ml_X7_169 rfl (by decide) (by decide) (by decide) (by exact Nat.le_of_ble_eq_true rfl) rfl dX7_locks_2 rfl (fun r h2 hq => ?_)
  obtain ⟨rfl, hq⟩ := hq
  obtain rfl := hq.symm
  rw [hep]
  refine aw_istore (pcn := 7) dX7_locks_5 rfl (by decide) ?_
  dsimp only [List.set_cons_zero, List.set_cons_succ]
  refine aw_ilo 1 (pcn := 8) rfl dX7_locks_7 rfl rfl ?_
  refine aw_iload (pcn := 10) dX7_locks_8 rfl rfl ?_
  refine aw_Si (pcn := 13) (r_lockAt _ _) mf_X7_lockAt mv_X7_lockAt ml_X7_93 rfl (by decide) (by decide) (by decide) (by exact Nat.le_of_ble_eq_true rfl) rfl dX7_locks_10 rfl (fun r h2 hq => ?_)
  obtain ⟨rfl, hq⟩ := hq
  obtain rfl := hq.symm
  refine aw_istore (pcn := 15) dX7_locks_13 rfl (by decide) ?_
  dsimp only [List.set_cons_zero, List.set_cons_succ]
  refine aw_alo 0 (pcn := 16) rfl dX7_locks_15 rfl rfl (rf_some _) ?_
  refine aw_getf (pcn := 19) fl_X7_52 dX7_locks_16 rfl hW.mo rfl ?_
  refine aw_bipush (v := nI 35) (pcn := 21) dX7_locks_19 rfl (by decide) ?_
  refine aw_ilo 1 (pcn := 22) rfl dX7_locks_21 rfl rfl ?_
  refine aw_imulN (pcn := 23) dX7_locks_22 rfl ?_
  refine aw_iconst (v := nI 4) (pcn := 24) dX7_locks_23 rfl (by decide) ?_
  refine aw_iaddN (pcn := 25) dX7_locks_24 rfl ?_
  refine aw_ilo 2 (pcn := 26) rfl dX7_locks_25 rfl rfl ?_
  refine aw_iaddN (pcn := 27) dX7_locks_26 rfl ?_
  refine aw_dup2 (pcn := 28) dX7_locks_27 rfl rfl rfl ?_
  refine aw_ialdM (j := 19) (pcn := 29) hW dX7_locks_28 rfl (show _ < 2240 by omega) ?_
  refine aw_iload (pcn := 31) dX7_locks_29 rfl rfl ?_
  refine aw_isub (pcn := 32) dX7_locks_31 rfl ?_
  refine aw_iastM (j := 19) (pcn := 33) hW dX7_locks_32 rfl (show _ < 2240 by omega) (fun h hW => ?_)
  refine aw_alo 0 (pcn := 34) rfl dX7_locks_33 rfl rfl (rf_some _) ?_
  refine aw_getf (pcn := 37) fl_X7_52 dX7_locks_34 rfl hW.mo rfl ?_
  refine aw_iload (pcn := 39) dX7_locks_37 rfl rfl ?_
  refine aw_iconst (v := nI 0) (pcn := 40) dX7_locks_39 rfl (by decide) ?_
  refine aw_iaddN (pcn := 41) dX7_locks_40 rfl ?_
  refine aw_iload (pcn := 43) dX7_locks_41 rfl rfl ?_
  refine aw_iastM (j := 19) (pcn := 44) hW dX7_locks_43 rfl (show _ < 2240 by omega) (fun h hW => ?_)
  refine aw_alo 0 (pcn := 45) rfl dX7_locks_44 rfl rfl (rf_some _) ?_
  refine aw_getf (pcn := 48) fl_X7_52 dX7_locks_45 rfl hW.mo rfl ?_
  refine aw_iload (pcn := 50) dX7_locks_48 rfl rfl ?_
  refine aw_iconst (v := nI 1) (pcn := 51) dX7_locks_50 rfl (by decide) ?_
  refine aw_iaddN (pcn := 52) dX7_locks_51 rfl ?_
  refine aw_ilo 2 (pcn := 53) rfl dX7_locks_52 rfl rfl ?_
  refine aw_iastM (j := 19) (pcn := 54) hW dX7_locks_53 rfl (show _ < 2240 by omega) (fun h hW => ?_)
  refine aw_alo 0 (pcn := 55) rfl dX7_locks_54 rfl rfl (rf_some _) ?_
  refine aw_getf (pcn := 58) fl_X7_52 dX7_locks_55 rfl hW.mo rfl ?_
  refine aw_iload (pcn := 60) dX7_locks_58 rfl rfl ?_
  refine aw_iconst (v := nI 2) (pcn := 61) dX7_locks_60 rfl (by decide) ?_
  refine aw_iaddN (pcn := 62) dX7_locks_61 rfl ?_
  refine aw_ilo 3 (pcn := 63) rfl dX7_locks_62 rfl rfl ?_
  refine aw_iastM (j := 19) (pcn := 64) hW dX7_locks_63 rfl (show _ < 2240 by omega) (fun h hW => ?_)
  refine aw_alo 0 (pcn := 65) rfl dX7_locks_64 rfl rfl (rf_some _) ?_
  refine aw_getf (pcn := 68) fl_X7_52 dX7_locks_65 rfl hW.mo rfl ?_
  refine aw_iload (pcn := 70) dX7_locks_68 rfl rfl ?_
  refine aw_iconst (v := nI 3) (pcn := 71) dX7_locks_70 rfl (by decide) ?_
  refine aw_iaddN (pcn := 72) dX7_locks_71 rfl ?_
  refine aw_iload (pcn := 74) dX7_locks_72 rfl rfl ?_
  refine aw_iastM (j := 19) (pcn := 75) hW dX7_locks_74 rfl (show _ < 2240 by omega) (fun h hW => ?_)
  refine aw_alo 0 (pcn := 76) rfl dX7_locks_75 rfl rfl (rf_some _) ?_
  refine aw_getf (pcn := 79) fl_X7_52 dX7_locks_76 rfl hW.mo rfl ?_
  refine aw_iload (pcn := 81) dX7_locks_79 rfl rfl ?_
  refine aw_iconst (v := nI 4) (pcn := 82) dX7_locks_81 rfl (by decide) ?_
  refine aw_iaddN (pcn := 83) dX7_locks_82 rfl ?_
  refine aw_iload (pcn := 85) dX7_locks_83 rfl rfl ?_
  refine aw_iastM (j := 19) (pcn := 86) hW dX7_locks_85 rfl (show _ < 2240 by omega) (fun h hW => ?_)
  refine aw_iload (pcn := 88) dX7_locks_86 rfl rfl ?_
  exact aw_iret dX7_locks_88 rfl ⟨_, rfl, ⟨rfl, hW⟩⟩

set_option maxHeartbeats 8000000 in
set_option maxRecDepth 20000 in
theorem r_all {X : XG} {l : Launch} {Γ : NM} {ow : Nat → Nat × Nat} {h : Hp} {T Tr : TB} {nh : Nat} (hW : WD Γ ow h T Tr nh) {n : Nat} (hn : Tr 5 0 = nI n) (hn8 : n ≤ 8) : AM X l yX7_all cX7_all 3 (some .int) 0 0 0 [.ref (Γ 14 0)] h (qi fun r h' => r = sumT Tr n (accT Tr) ∧ h' = h) := by
  refine AM.of (by decide +kernel) (by simp [Value.category]) (Nat.le_of_ble_eq_true rfl) ?_
  show AW X l cX7_all RX7 "all" (some .int) 3 0 none _ 0 0 0 [some (.ref (Γ 14 0)), none, none] [] h
  refine aw_iconst (v := nI 0) (pcn := 1) dX7_all_0 rfl (by decide) ?_
  refine aw_ist 1 (pcn := 2) rfl dX7_all_1 rfl (by decide) ?_
  dsimp only [List.set_cons_zero, List.set_cons_succ]
  refine aw_iconst (v := nI 0) (pcn := 3) dX7_all_2 rfl (by decide) ?_
  refine aw_ist 2 (pcn := 4) rfl dX7_all_3 rfl (by decide) ?_
  dsimp only [List.set_cons_zero, List.set_cons_succ]
  refine aw_ilo 2 (pcn := 5) rfl dX7_all_4 rfl rfl ?_
  refine aw_bipush (v := nI 6) (pcn := 7) dX7_all_5 rfl (by decide) ?_
  refine aw_icmp_ge (t := 25) (pcn := 10) dX7_all_7 rfl (by decide) (fun q1 => absurd q1 (by decide)) (fun q1 => ?_)
  refine aw_ilo 1 (pcn := 11) rfl dX7_all_10 rfl rfl ?_
  refine aw_alo 0 (pcn := 12) rfl dX7_all_11 rfl rfl (rf_some _) ?_
  refine aw_getf (pcn := 15) fl_X7_7 dX7_all_12 rfl hW.mo rfl ?_
  refine aw_ilo 2 (pcn := 16) rfl dX7_all_15 rfl rfl ?_
  refine aw_ialdM (j := 0) (pcn := 17) hW dX7_all_16 rfl (show _ < 6 by omega) ?_
  refine aw_iadd (pcn := 18) dX7_all_17 rfl ?_
  refine aw_ist 1 (pcn := 19) rfl dX7_all_18 rfl (by decide) ?_
  dsimp only [List.set_cons_zero, List.set_cons_succ]
  refine aw_iinc (v := nI 1) (pcn := 22) dX7_all_19 rfl (by decide) rfl (by decide) ?_
  dsimp only [List.set_cons_zero, List.set_cons_succ]
  refine aw_goto (t := 4) dX7_all_22 (by decide) ?_
  refine aw_ilo 2 (pcn := 5) rfl dX7_all_4 rfl rfl ?_
  refine aw_bipush (v := nI 6) (pcn := 7) dX7_all_5 rfl (by decide) ?_
  refine aw_icmp_ge (t := 25) (pcn := 10) dX7_all_7 rfl (by decide) (fun q2 => absurd q2 (by decide)) (fun q2 => ?_)
  refine aw_ilo 1 (pcn := 11) rfl dX7_all_10 rfl rfl ?_
  refine aw_alo 0 (pcn := 12) rfl dX7_all_11 rfl rfl (rf_some _) ?_
  refine aw_getf (pcn := 15) fl_X7_7 dX7_all_12 rfl hW.mo rfl ?_
  refine aw_ilo 2 (pcn := 16) rfl dX7_all_15 rfl rfl ?_
  refine aw_ialdM (j := 0) (pcn := 17) hW dX7_all_16 rfl (show _ < 6 by omega) ?_
  refine aw_iadd (pcn := 18) dX7_all_17 rfl ?_
  refine aw_ist 1 (pcn := 19) rfl dX7_all_18 rfl (by decide) ?_
  dsimp only [List.set_cons_zero, List.set_cons_succ]
  refine aw_iinc (v := nI 2) (pcn := 22) dX7_all_19 rfl (by decide) rfl (by decide) ?_
  dsimp only [List.set_cons_zero, List.set_cons_succ]
  refine aw_goto (t := 4) dX7_all_22 (by decide) ?_
  refine aw_ilo 2 (pcn := 5) rfl dX7_all_4 rfl rfl ?_
  refine aw_bipush (v := nI 6) (pcn := 7) dX7_all_5 rfl (by decide) ?_
  refine aw_icmp_ge (t := 25) (pcn := 10) dX7_all_7 rfl (by decide) (fun q3 => absurd q3 (by decide)) (fun q3 => ?_)
  refine aw_ilo 1 (pcn := 11) rfl dX7_all_10 rfl rfl ?_
  refine aw_alo 0 (pcn := 12) rfl dX7_all_11 rfl rfl (rf_some _) ?_
  refine aw_getf (pcn := 15) fl_X7_7 dX7_all_12 rfl hW.mo rfl ?_
  refine aw_ilo 2 (pcn := 16) rfl dX7_all_15 rfl rfl ?_
  refine aw_ialdM (j := 0) (pcn := 17) hW dX7_all_16 rfl (show _ < 6 by omega) ?_
  refine aw_iadd (pcn := 18) dX7_all_17 rfl ?_
  refine aw_ist 1 (pcn := 19) rfl dX7_all_18 rfl (by decide) ?_
  dsimp only [List.set_cons_zero, List.set_cons_succ]
  refine aw_iinc (v := nI 3) (pcn := 22) dX7_all_19 rfl (by decide) rfl (by decide) ?_
  dsimp only [List.set_cons_zero, List.set_cons_succ]
  refine aw_goto (t := 4) dX7_all_22 (by decide) ?_
  refine aw_ilo 2 (pcn := 5) rfl dX7_all_4 rfl rfl ?_
  refine aw_bipush (v := nI 6) (pcn := 7) dX7_all_5 rfl (by decide) ?_
  refine aw_icmp_ge (t := 25) (pcn := 10) dX7_all_7 rfl (by decide) (fun q4 => absurd q4 (by decide)) (fun q4 => ?_)
  refine aw_ilo 1 (pcn := 11) rfl dX7_all_10 rfl rfl ?_
  refine aw_alo 0 (pcn := 12) rfl dX7_all_11 rfl rfl (rf_some _) ?_
  refine aw_getf (pcn := 15) fl_X7_7 dX7_all_12 rfl hW.mo rfl ?_
  refine aw_ilo 2 (pcn := 16) rfl dX7_all_15 rfl rfl ?_
  refine aw_ialdM (j := 0) (pcn := 17) hW dX7_all_16 rfl (show _ < 6 by omega) ?_
  refine aw_iadd (pcn := 18) dX7_all_17 rfl ?_
  refine aw_ist 1 (pcn := 19) rfl dX7_all_18 rfl (by decide) ?_
  dsimp only [List.set_cons_zero, List.set_cons_succ]
  refine aw_iinc (v := nI 4) (pcn := 22) dX7_all_19 rfl (by decide) rfl (by decide) ?_
  dsimp only [List.set_cons_zero, List.set_cons_succ]
  refine aw_goto (t := 4) dX7_all_22 (by decide) ?_
  refine aw_ilo 2 (pcn := 5) rfl dX7_all_4 rfl rfl ?_
  refine aw_bipush (v := nI 6) (pcn := 7) dX7_all_5 rfl (by decide) ?_
  refine aw_icmp_ge (t := 25) (pcn := 10) dX7_all_7 rfl (by decide) (fun q5 => absurd q5 (by decide)) (fun q5 => ?_)
  refine aw_ilo 1 (pcn := 11) rfl dX7_all_10 rfl rfl ?_
  refine aw_alo 0 (pcn := 12) rfl dX7_all_11 rfl rfl (rf_some _) ?_
  refine aw_getf (pcn := 15) fl_X7_7 dX7_all_12 rfl hW.mo rfl ?_
  refine aw_ilo 2 (pcn := 16) rfl dX7_all_15 rfl rfl ?_
  refine aw_ialdM (j := 0) (pcn := 17) hW dX7_all_16 rfl (show _ < 6 by omega) ?_
  refine aw_iadd (pcn := 18) dX7_all_17 rfl ?_
  refine aw_ist 1 (pcn := 19) rfl dX7_all_18 rfl (by decide) ?_
  dsimp only [List.set_cons_zero, List.set_cons_succ]
  refine aw_iinc (v := nI 5) (pcn := 22) dX7_all_19 rfl (by decide) rfl (by decide) ?_
  dsimp only [List.set_cons_zero, List.set_cons_succ]
  refine aw_goto (t := 4) dX7_all_22 (by decide) ?_
  refine aw_ilo 2 (pcn := 5) rfl dX7_all_4 rfl rfl ?_
  refine aw_bipush (v := nI 6) (pcn := 7) dX7_all_5 rfl (by decide) ?_
  refine aw_icmp_ge (t := 25) (pcn := 10) dX7_all_7 rfl (by decide) (fun q6 => absurd q6 (by decide)) (fun q6 => ?_)
  refine aw_ilo 1 (pcn := 11) rfl dX7_all_10 rfl rfl ?_
  refine aw_alo 0 (pcn := 12) rfl dX7_all_11 rfl rfl (rf_some _) ?_
  refine aw_getf (pcn := 15) fl_X7_7 dX7_all_12 rfl hW.mo rfl ?_
  refine aw_ilo 2 (pcn := 16) rfl dX7_all_15 rfl rfl ?_
  refine aw_ialdM (j := 0) (pcn := 17) hW dX7_all_16 rfl (show _ < 6 by omega) ?_
  refine aw_iadd (pcn := 18) dX7_all_17 rfl ?_
  refine aw_ist 1 (pcn := 19) rfl dX7_all_18 rfl (by decide) ?_
  dsimp only [List.set_cons_zero, List.set_cons_succ]
  refine aw_iinc (v := nI 6) (pcn := 22) dX7_all_19 rfl (by decide) rfl (by decide) ?_
  dsimp only [List.set_cons_zero, List.set_cons_succ]
  refine aw_goto (t := 4) dX7_all_22 (by decide) ?_
  refine aw_ilo 2 (pcn := 5) rfl dX7_all_4 rfl rfl ?_
  refine aw_bipush (v := nI 6) (pcn := 7) dX7_all_5 rfl (by decide) ?_
  refine aw_icmp_ge (t := 25) (pcn := 10) dX7_all_7 rfl (by decide) (fun q7 => ?_) (fun q7 => absurd (by decide) q7)
  refine aw_iconst (v := nI 0) (pcn := 26) dX7_all_25 rfl (by decide) ?_
  refine aw_ist 2 (pcn := 27) rfl dX7_all_26 rfl (by decide) ?_
  dsimp only [List.set_cons_zero, List.set_cons_succ]
  have H : ∀ (m k : Nat), k + m = n → AW X l cX7_all RX7 "all" (some .int) 3 0 none (qi fun r h' => r = sumT Tr n (accT Tr) ∧ h' = h) 0 0 27 [some (.ref (Γ 14 0)), some (.int (sumT Tr k (accT Tr))), some (.int (nI (k)))] [] h := by
    intro m
    induction m with
    | zero  =>
      intro k hk
      refine aw_ilo 2 (pcn := 28) rfl dX7_all_27 rfl rfl ?_
      refine aw_alo 0 (pcn := 29) rfl dX7_all_28 rfl rfl (rf_some _) ?_
      refine aw_getf (pcn := 32) fl_X7_68 dX7_all_29 rfl hW.mo rfl ?_
      rw [hn]
      obtain rfl : k = n := by omega
      refine aw_icmp_ge (t := 50) (pcn := 35) dX7_all_32 rfl (by decide) (fun _ => ?_) (fun q => absurd (Int32.le_refl _) q)
      refine aw_ilo 1 (pcn := 51) rfl dX7_all_50 rfl rfl ?_
      exact aw_iret dX7_all_51 rfl ⟨_, rfl, ⟨rfl, rfl⟩⟩
    | succ m ih =>
      intro k hk
      refine aw_ilo 2 (pcn := 28) rfl dX7_all_27 rfl rfl ?_
      refine aw_alo 0 (pcn := 29) rfl dX7_all_28 rfl rfl (rf_some _) ?_
      refine aw_getf (pcn := 32) fl_X7_68 dX7_all_29 rfl hW.mo rfl ?_
      rw [hn]
      refine aw_icmp_ge (t := 50) (pcn := 35) dX7_all_32 rfl (by decide) (fun q => absurd q (nI_ge (by omega) (by omega))) (fun _ => ?_)
      refine aw_ilo 1 (pcn := 36) rfl dX7_all_35 rfl rfl ?_
      refine aw_alo 0 (pcn := 37) rfl dX7_all_36 rfl rfl (rf_some _) ?_
      refine aw_getf (pcn := 40) fl_X7_22 dX7_all_37 rfl hW.mo rfl ?_
      refine aw_ilo 2 (pcn := 41) rfl dX7_all_40 rfl rfl ?_
      refine aw_ialdM (j := 8) (pcn := 42) hW dX7_all_41 rfl (show _ < 8 by omega) ?_
      refine aw_iadd (pcn := 43) dX7_all_42 rfl ?_
      refine aw_ist 1 (pcn := 44) rfl dX7_all_43 rfl (by decide) ?_
      dsimp only [List.set_cons_zero, List.set_cons_succ]
      refine aw_iincN (pcn := 47) dX7_all_44 rfl (by decide) rfl ?_
      dsimp only [List.set_cons_zero, List.set_cons_succ]
      refine aw_goto (t := 27) dX7_all_47 (by decide) ?_
      exact ih (k + 1) (by omega)
  exact H n 0 (by omega)

set_option maxHeartbeats 8000000 in
set_option maxRecDepth 20000 in
theorem r_takesOut {X : XG} {l : Launch} {Γ : NM} {ow : Nat → Nat × Nat} {h : Hp} {T Tr : TB} {nh : Nat} (hW : WD Γ ow h T Tr nh) {S c : Nat} (hS : S < 64) (hc8 : c < 8) (hf : ∀ k, k < 3 → ¬ Tr 19 (35 * S + 16 + 5 * k + 0) ≤ 0 → ∃ P, P < 6 ∧ Tr 19 (35 * S + 16 + 5 * k + 1) = nI P) : AM X l yX7_takesOut cX7_takesOut 6 (none) 3 0 0 [.ref (Γ 14 0), .int (nI c), .int (nI S)] h (qv fun h' => WD Γ ow h' T (toT Tr c S) nh) := by
  refine AM.of (by decide +kernel) (by simp [Value.category]) (Nat.le_of_ble_eq_true rfl) ?_
  show AW X l cX7_takesOut RX7 "takesOut" (none) 6 3 none _ 0 0 0 [some (.ref (Γ 14 0)), some (.int (nI c)), some (.int (nI S)), none, none, none] [] h
  refine aw_iconst (v := nI 0) (pcn := 1) dX7_takesOut_0 rfl (by decide) ?_
  refine aw_ist 3 (pcn := 2) rfl dX7_takesOut_1 rfl (by decide) ?_
  dsimp only [List.set_cons_zero, List.set_cons_succ]
  refine aw_iconst (v := nI 0) (pcn := 3) dX7_takesOut_2 rfl (by decide) ?_
  refine aw_istore (pcn := 5) dX7_takesOut_3 rfl (by decide) ?_
  dsimp only [List.set_cons_zero, List.set_cons_succ]
  refine aw_iload (pcn := 7) dX7_takesOut_5 rfl rfl ?_
  refine aw_bipush (v := nI 6) (pcn := 9) dX7_takesOut_7 rfl (by decide) ?_
  refine aw_icmp_ge (t := 36) (pcn := 12) dX7_takesOut_9 rfl (by decide) (fun q1 => absurd q1 (by decide)) (fun q1 => ?_)
  refine aw_ilo 3 (pcn := 13) rfl dX7_takesOut_12 rfl rfl ?_
  refine aw_alo 0 (pcn := 14) rfl dX7_takesOut_13 rfl rfl (rf_some _) ?_
  refine aw_getf (pcn := 17) fl_X7_52 dX7_takesOut_14 rfl hW.mo rfl ?_
  refine aw_bipush (v := nI 35) (pcn := 19) dX7_takesOut_17 rfl (by decide) ?_
  refine aw_ilo 2 (pcn := 20) rfl dX7_takesOut_19 rfl rfl ?_
  refine aw_imulN (pcn := 21) dX7_takesOut_20 rfl ?_
  refine aw_bipush (v := nI 10) (pcn := 23) dX7_takesOut_21 rfl (by decide) ?_
  refine aw_iaddN (pcn := 24) dX7_takesOut_23 rfl ?_
  refine aw_iload (pcn := 26) dX7_takesOut_24 rfl rfl ?_
  refine aw_iaddN (pcn := 27) dX7_takesOut_26 rfl ?_
  refine aw_ialdM (j := 19) (pcn := 28) hW dX7_takesOut_27 rfl (show _ < 2240 by omega) ?_
  refine aw_iadd (pcn := 29) dX7_takesOut_28 rfl ?_
  refine aw_ist 3 (pcn := 30) rfl dX7_takesOut_29 rfl (by decide) ?_
  dsimp only [List.set_cons_zero, List.set_cons_succ]
  refine aw_iinc (v := nI 1) (pcn := 33) dX7_takesOut_30 rfl (by decide) rfl (by decide) ?_
  dsimp only [List.set_cons_zero, List.set_cons_succ]
  refine aw_goto (t := 5) dX7_takesOut_33 (by decide) ?_
  refine aw_iload (pcn := 7) dX7_takesOut_5 rfl rfl ?_
  refine aw_bipush (v := nI 6) (pcn := 9) dX7_takesOut_7 rfl (by decide) ?_
  refine aw_icmp_ge (t := 36) (pcn := 12) dX7_takesOut_9 rfl (by decide) (fun q2 => absurd q2 (by decide)) (fun q2 => ?_)
  refine aw_ilo 3 (pcn := 13) rfl dX7_takesOut_12 rfl rfl ?_
  refine aw_alo 0 (pcn := 14) rfl dX7_takesOut_13 rfl rfl (rf_some _) ?_
  refine aw_getf (pcn := 17) fl_X7_52 dX7_takesOut_14 rfl hW.mo rfl ?_
  refine aw_bipush (v := nI 35) (pcn := 19) dX7_takesOut_17 rfl (by decide) ?_
  refine aw_ilo 2 (pcn := 20) rfl dX7_takesOut_19 rfl rfl ?_
  refine aw_imulN (pcn := 21) dX7_takesOut_20 rfl ?_
  refine aw_bipush (v := nI 10) (pcn := 23) dX7_takesOut_21 rfl (by decide) ?_
  refine aw_iaddN (pcn := 24) dX7_takesOut_23 rfl ?_
  refine aw_iload (pcn := 26) dX7_takesOut_24 rfl rfl ?_
  refine aw_iaddN (pcn := 27) dX7_takesOut_26 rfl ?_
  refine aw_ialdM (j := 19) (pcn := 28) hW dX7_takesOut_27 rfl (show _ < 2240 by omega) ?_
  refine aw_iadd (pcn := 29) dX7_takesOut_28 rfl ?_
  refine aw_ist 3 (pcn := 30) rfl dX7_takesOut_29 rfl (by decide) ?_
  dsimp only [List.set_cons_zero, List.set_cons_succ]
  refine aw_iinc (v := nI 2) (pcn := 33) dX7_takesOut_30 rfl (by decide) rfl (by decide) ?_
  dsimp only [List.set_cons_zero, List.set_cons_succ]
  refine aw_goto (t := 5) dX7_takesOut_33 (by decide) ?_
  refine aw_iload (pcn := 7) dX7_takesOut_5 rfl rfl ?_
  refine aw_bipush (v := nI 6) (pcn := 9) dX7_takesOut_7 rfl (by decide) ?_
  refine aw_icmp_ge (t := 36) (pcn := 12) dX7_takesOut_9 rfl (by decide) (fun q3 => absurd q3 (by decide)) (fun q3 => ?_)
  refine aw_ilo 3 (pcn := 13) rfl dX7_takesOut_12 rfl rfl ?_
  refine aw_alo 0 (pcn := 14) rfl dX7_takesOut_13 rfl rfl (rf_some _) ?_
  refine aw_getf (pcn := 17) fl_X7_52 dX7_takesOut_14 rfl hW.mo rfl ?_
  refine aw_bipush (v := nI 35) (pcn := 19) dX7_takesOut_17 rfl (by decide) ?_
  refine aw_ilo 2 (pcn := 20) rfl dX7_takesOut_19 rfl rfl ?_
  refine aw_imulN (pcn := 21) dX7_takesOut_20 rfl ?_
  refine aw_bipush (v := nI 10) (pcn := 23) dX7_takesOut_21 rfl (by decide) ?_
  refine aw_iaddN (pcn := 24) dX7_takesOut_23 rfl ?_
  refine aw_iload (pcn := 26) dX7_takesOut_24 rfl rfl ?_
  refine aw_iaddN (pcn := 27) dX7_takesOut_26 rfl ?_
  refine aw_ialdM (j := 19) (pcn := 28) hW dX7_takesOut_27 rfl (show _ < 2240 by omega) ?_
  refine aw_iadd (pcn := 29) dX7_takesOut_28 rfl ?_
  refine aw_ist 3 (pcn := 30) rfl dX7_takesOut_29 rfl (by decide) ?_
  dsimp only [List.set_cons_zero, List.set_cons_succ]
  refine aw_iinc (v := nI 3) (pcn := 33) dX7_takesOut_30 rfl (by decide) rfl (by decide) ?_
  dsimp only [List.set_cons_zero, List.set_cons_succ]
  refine aw_goto (t := 5) dX7_takesOut_33 (by decide) ?_
  refine aw_iload (pcn := 7) dX7_takesOut_5 rfl rfl ?_
  refine aw_bipush (v := nI 6) (pcn := 9) dX7_takesOut_7 rfl (by decide) ?_
  refine aw_icmp_ge (t := 36) (pcn := 12) dX7_takesOut_9 rfl (by decide) (fun q4 => absurd q4 (by decide)) (fun q4 => ?_)
  refine aw_ilo 3 (pcn := 13) rfl dX7_takesOut_12 rfl rfl ?_
  refine aw_alo 0 (pcn := 14) rfl dX7_takesOut_13 rfl rfl (rf_some _) ?_
  refine aw_getf (pcn := 17) fl_X7_52 dX7_takesOut_14 rfl hW.mo rfl ?_
  refine aw_bipush (v := nI 35) (pcn := 19) dX7_takesOut_17 rfl (by decide) ?_
  refine aw_ilo 2 (pcn := 20) rfl dX7_takesOut_19 rfl rfl ?_
  refine aw_imulN (pcn := 21) dX7_takesOut_20 rfl ?_
  refine aw_bipush (v := nI 10) (pcn := 23) dX7_takesOut_21 rfl (by decide) ?_
  refine aw_iaddN (pcn := 24) dX7_takesOut_23 rfl ?_
  refine aw_iload (pcn := 26) dX7_takesOut_24 rfl rfl ?_
  refine aw_iaddN (pcn := 27) dX7_takesOut_26 rfl ?_
  refine aw_ialdM (j := 19) (pcn := 28) hW dX7_takesOut_27 rfl (show _ < 2240 by omega) ?_
  refine aw_iadd (pcn := 29) dX7_takesOut_28 rfl ?_
  refine aw_ist 3 (pcn := 30) rfl dX7_takesOut_29 rfl (by decide) ?_
  dsimp only [List.set_cons_zero, List.set_cons_succ]
  refine aw_iinc (v := nI 4) (pcn := 33) dX7_takesOut_30 rfl (by decide) rfl (by decide) ?_
  dsimp only [List.set_cons_zero, List.set_cons_succ]
  refine aw_goto (t := 5) dX7_takesOut_33 (by decide) ?_
  refine aw_iload (pcn := 7) dX7_takesOut_5 rfl rfl ?_
  refine aw_bipush (v := nI 6) (pcn := 9) dX7_takesOut_7 rfl (by decide) ?_
  refine aw_icmp_ge (t := 36) (pcn := 12) dX7_takesOut_9 rfl (by decide) (fun q5 => absurd q5 (by decide)) (fun q5 => ?_)
  refine aw_ilo 3 (pcn := 13) rfl dX7_takesOut_12 rfl rfl ?_
  refine aw_alo 0 (pcn := 14) rfl dX7_takesOut_13 rfl rfl (rf_some _) ?_
  refine aw_getf (pcn := 17) fl_X7_52 dX7_takesOut_14 rfl hW.mo rfl ?_
  refine aw_bipush (v := nI 35) (pcn := 19) dX7_takesOut_17 rfl (by decide) ?_
  refine aw_ilo 2 (pcn := 20) rfl dX7_takesOut_19 rfl rfl ?_
  refine aw_imulN (pcn := 21) dX7_takesOut_20 rfl ?_
  refine aw_bipush (v := nI 10) (pcn := 23) dX7_takesOut_21 rfl (by decide) ?_
  refine aw_iaddN (pcn := 24) dX7_takesOut_23 rfl ?_
  refine aw_iload (pcn := 26) dX7_takesOut_24 rfl rfl ?_
  refine aw_iaddN (pcn := 27) dX7_takesOut_26 rfl ?_
  refine aw_ialdM (j := 19) (pcn := 28) hW dX7_takesOut_27 rfl (show _ < 2240 by omega) ?_
  refine aw_iadd (pcn := 29) dX7_takesOut_28 rfl ?_
  refine aw_ist 3 (pcn := 30) rfl dX7_takesOut_29 rfl (by decide) ?_
  dsimp only [List.set_cons_zero, List.set_cons_succ]
  refine aw_iinc (v := nI 5) (pcn := 33) dX7_takesOut_30 rfl (by decide) rfl (by decide) ?_
  dsimp only [List.set_cons_zero, List.set_cons_succ]
  refine aw_goto (t := 5) dX7_takesOut_33 (by decide) ?_
  refine aw_iload (pcn := 7) dX7_takesOut_5 rfl rfl ?_
  refine aw_bipush (v := nI 6) (pcn := 9) dX7_takesOut_7 rfl (by decide) ?_
  refine aw_icmp_ge (t := 36) (pcn := 12) dX7_takesOut_9 rfl (by decide) (fun q6 => absurd q6 (by decide)) (fun q6 => ?_)
  refine aw_ilo 3 (pcn := 13) rfl dX7_takesOut_12 rfl rfl ?_
  refine aw_alo 0 (pcn := 14) rfl dX7_takesOut_13 rfl rfl (rf_some _) ?_
  refine aw_getf (pcn := 17) fl_X7_52 dX7_takesOut_14 rfl hW.mo rfl ?_
  refine aw_bipush (v := nI 35) (pcn := 19) dX7_takesOut_17 rfl (by decide) ?_
  refine aw_ilo 2 (pcn := 20) rfl dX7_takesOut_19 rfl rfl ?_
  refine aw_imulN (pcn := 21) dX7_takesOut_20 rfl ?_
  refine aw_bipush (v := nI 10) (pcn := 23) dX7_takesOut_21 rfl (by decide) ?_
  refine aw_iaddN (pcn := 24) dX7_takesOut_23 rfl ?_
  refine aw_iload (pcn := 26) dX7_takesOut_24 rfl rfl ?_
  refine aw_iaddN (pcn := 27) dX7_takesOut_26 rfl ?_
  refine aw_ialdM (j := 19) (pcn := 28) hW dX7_takesOut_27 rfl (show _ < 2240 by omega) ?_
  refine aw_iadd (pcn := 29) dX7_takesOut_28 rfl ?_
  refine aw_ist 3 (pcn := 30) rfl dX7_takesOut_29 rfl (by decide) ?_
  dsimp only [List.set_cons_zero, List.set_cons_succ]
  refine aw_iinc (v := nI 6) (pcn := 33) dX7_takesOut_30 rfl (by decide) rfl (by decide) ?_
  dsimp only [List.set_cons_zero, List.set_cons_succ]
  refine aw_goto (t := 5) dX7_takesOut_33 (by decide) ?_
  refine aw_iload (pcn := 7) dX7_takesOut_5 rfl rfl ?_
  refine aw_bipush (v := nI 6) (pcn := 9) dX7_takesOut_7 rfl (by decide) ?_
  refine aw_icmp_ge (t := 36) (pcn := 12) dX7_takesOut_9 rfl (by decide) (fun q7 => ?_) (fun q7 => absurd (by decide) q7)
  refine aw_ilo 3 (pcn := 37) rfl dX7_takesOut_36 rfl rfl ?_
  refine aw_if_ne (t := 47) (pcn := 40) dX7_takesOut_37 rfl (by decide) (fun q8 => ?_) (fun q8 => ?_)
  · refine aw_iconst (v := nI 0) (pcn := 48) dX7_takesOut_47 rfl (by decide) ?_
    refine aw_istore (pcn := 50) dX7_takesOut_48 rfl (by decide) ?_
    dsimp only [List.set_cons_zero, List.set_cons_succ]
    have hW : WD Γ ow h T (poT Tr S 0) nh := hW
    have hall : outT Tr S = outT Tr S := rfl
    refine aw_iload (pcn := 52) dX7_takesOut_50 rfl rfl ?_
    refine aw_bipush (v := nI 6) (pcn := 54) dX7_takesOut_52 rfl (by decide) ?_
    refine aw_icmp_ge (t := 127) (pcn := 57) dX7_takesOut_54 rfl (by decide) (fun q9 => absurd q9 (by decide)) (fun q9 => ?_)
    refine aw_alo 0 (pcn := 58) rfl dX7_takesOut_57 rfl rfl (rf_some _) ?_
    refine aw_getf (pcn := 61) fl_X7_52 dX7_takesOut_58 rfl hW.mo rfl ?_
    refine aw_bipush (v := nI 35) (pcn := 63) dX7_takesOut_61 rfl (by decide) ?_
    refine aw_ilo 2 (pcn := 64) rfl dX7_takesOut_63 rfl rfl ?_
    refine aw_imulN (pcn := 65) dX7_takesOut_64 rfl ?_
    refine aw_bipush (v := nI 10) (pcn := 67) dX7_takesOut_65 rfl (by decide) ?_
    refine aw_iaddN (pcn := 68) dX7_takesOut_67 rfl ?_
    refine aw_iload (pcn := 70) dX7_takesOut_68 rfl rfl ?_
    refine aw_iaddN (pcn := 71) dX7_takesOut_70 rfl ?_
    refine aw_ialdM (j := 19) (pcn := 72) hW dX7_takesOut_71 rfl (show _ < 2240 by omega) ?_
    refine aw_istore (pcn := 74) dX7_takesOut_72 rfl (by decide) ?_
    dsimp only [List.set_cons_zero, List.set_cons_succ]
    refine aw_alo 0 (pcn := 75) rfl dX7_takesOut_74 rfl rfl (rf_some _) ?_
    refine aw_getf (pcn := 78) fl_X7_7 dX7_takesOut_75 rfl hW.mo rfl ?_
    refine aw_iload (pcn := 80) dX7_takesOut_78 rfl rfl ?_
    refine aw_dup2 (pcn := 81) dX7_takesOut_80 rfl rfl rfl ?_
    refine aw_ialdM (j := 0) (pcn := 82) hW dX7_takesOut_81 rfl (show _ < 6 by omega) ?_
    refine aw_iload (pcn := 84) dX7_takesOut_82 rfl rfl ?_
    refine aw_iadd (pcn := 85) dX7_takesOut_84 rfl ?_
    refine aw_iastM (j := 0) (pcn := 86) hW dX7_takesOut_85 rfl (show _ < 6 by omega) (fun h hW => ?_)
    refine aw_alo 0 (pcn := 87) rfl dX7_takesOut_86 rfl rfl (rf_some _) ?_
    refine aw_getf (pcn := 90) fl_X7_52 dX7_takesOut_87 rfl hW.mo rfl ?_
    refine aw_bipush (v := nI 35) (pcn := 92) dX7_takesOut_90 rfl (by decide) ?_
    refine aw_ilo 2 (pcn := 93) rfl dX7_takesOut_92 rfl rfl ?_
    refine aw_imulN (pcn := 94) dX7_takesOut_93 rfl ?_
    refine aw_iconst (v := nI 4) (pcn := 95) dX7_takesOut_94 rfl (by decide) ?_
    refine aw_iaddN (pcn := 96) dX7_takesOut_95 rfl ?_
    refine aw_iload (pcn := 98) dX7_takesOut_96 rfl rfl ?_
    refine aw_iaddN (pcn := 99) dX7_takesOut_98 rfl ?_
    refine aw_dup2 (pcn := 100) dX7_takesOut_99 rfl rfl rfl ?_
    refine aw_ialdM (j := 19) (pcn := 101) hW dX7_takesOut_100 rfl (show _ < 2240 by omega) ?_
    refine aw_iload (pcn := 103) dX7_takesOut_101 rfl rfl ?_
    refine aw_isub (pcn := 104) dX7_takesOut_103 rfl ?_
    refine aw_iastM (j := 19) (pcn := 105) hW dX7_takesOut_104 rfl (show _ < 2240 by omega) (fun h hW => ?_)
    refine aw_alo 0 (pcn := 106) rfl dX7_takesOut_105 rfl rfl (rf_some _) ?_
    refine aw_getf (pcn := 109) fl_X7_52 dX7_takesOut_106 rfl hW.mo rfl ?_
    refine aw_bipush (v := nI 35) (pcn := 111) dX7_takesOut_109 rfl (by decide) ?_
    refine aw_ilo 2 (pcn := 112) rfl dX7_takesOut_111 rfl rfl ?_
    refine aw_imulN (pcn := 113) dX7_takesOut_112 rfl ?_
    refine aw_bipush (v := nI 10) (pcn := 115) dX7_takesOut_113 rfl (by decide) ?_
    refine aw_iaddN (pcn := 116) dX7_takesOut_115 rfl ?_
    refine aw_iload (pcn := 118) dX7_takesOut_116 rfl rfl ?_
    refine aw_iaddN (pcn := 119) dX7_takesOut_118 rfl ?_
    refine aw_iconst (v := nI 0) (pcn := 120) dX7_takesOut_119 rfl (by decide) ?_
    refine aw_iastM (j := 19) (pcn := 121) hW dX7_takesOut_120 rfl (show _ < 2240 by omega) (fun h hW => ?_)
    refine aw_iinc (v := nI 1) (pcn := 124) dX7_takesOut_121 rfl (by decide) rfl (by decide) ?_
    dsimp only [List.set_cons_zero, List.set_cons_succ]
    refine aw_goto (t := 50) dX7_takesOut_124 (by decide) ?_
    have hW : WD Γ ow h T (poT Tr S 1) nh := hW
    refine aw_iload (pcn := 52) dX7_takesOut_50 rfl rfl ?_
    refine aw_bipush (v := nI 6) (pcn := 54) dX7_takesOut_52 rfl (by decide) ?_
    refine aw_icmp_ge (t := 127) (pcn := 57) dX7_takesOut_54 rfl (by decide) (fun q10 => absurd q10 (by decide)) (fun q10 => ?_)
    refine aw_alo 0 (pcn := 58) rfl dX7_takesOut_57 rfl rfl (rf_some _) ?_
    refine aw_getf (pcn := 61) fl_X7_52 dX7_takesOut_58 rfl hW.mo rfl ?_
    refine aw_bipush (v := nI 35) (pcn := 63) dX7_takesOut_61 rfl (by decide) ?_
    refine aw_ilo 2 (pcn := 64) rfl dX7_takesOut_63 rfl rfl ?_
    refine aw_imulN (pcn := 65) dX7_takesOut_64 rfl ?_
    refine aw_bipush (v := nI 10) (pcn := 67) dX7_takesOut_65 rfl (by decide) ?_
    refine aw_iaddN (pcn := 68) dX7_takesOut_67 rfl ?_
    refine aw_iload (pcn := 70) dX7_takesOut_68 rfl rfl ?_
    refine aw_iaddN (pcn := 71) dX7_takesOut_70 rfl ?_
    refine aw_ialdM (j := 19) (pcn := 72) hW dX7_takesOut_71 rfl (show _ < 2240 by omega) ?_
    refine aw_istore (pcn := 74) dX7_takesOut_72 rfl (by decide) ?_
    dsimp only [List.set_cons_zero, List.set_cons_succ]
    refine aw_alo 0 (pcn := 75) rfl dX7_takesOut_74 rfl rfl (rf_some _) ?_
    refine aw_getf (pcn := 78) fl_X7_7 dX7_takesOut_75 rfl hW.mo rfl ?_
    refine aw_iload (pcn := 80) dX7_takesOut_78 rfl rfl ?_
    refine aw_dup2 (pcn := 81) dX7_takesOut_80 rfl rfl rfl ?_
    refine aw_ialdM (j := 0) (pcn := 82) hW dX7_takesOut_81 rfl (show _ < 6 by omega) ?_
    refine aw_iload (pcn := 84) dX7_takesOut_82 rfl rfl ?_
    refine aw_iadd (pcn := 85) dX7_takesOut_84 rfl ?_
    refine aw_iastM (j := 0) (pcn := 86) hW dX7_takesOut_85 rfl (show _ < 6 by omega) (fun h hW => ?_)
    refine aw_alo 0 (pcn := 87) rfl dX7_takesOut_86 rfl rfl (rf_some _) ?_
    refine aw_getf (pcn := 90) fl_X7_52 dX7_takesOut_87 rfl hW.mo rfl ?_
    refine aw_bipush (v := nI 35) (pcn := 92) dX7_takesOut_90 rfl (by decide) ?_
    refine aw_ilo 2 (pcn := 93) rfl dX7_takesOut_92 rfl rfl ?_
    refine aw_imulN (pcn := 94) dX7_takesOut_93 rfl ?_
    refine aw_iconst (v := nI 4) (pcn := 95) dX7_takesOut_94 rfl (by decide) ?_
    refine aw_iaddN (pcn := 96) dX7_takesOut_95 rfl ?_
    refine aw_iload (pcn := 98) dX7_takesOut_96 rfl rfl ?_
    refine aw_iaddN (pcn := 99) dX7_takesOut_98 rfl ?_
    refine aw_dup2 (pcn := 100) dX7_takesOut_99 rfl rfl rfl ?_
    refine aw_ialdM (j := 19) (pcn := 101) hW dX7_takesOut_100 rfl (show _ < 2240 by omega) ?_
    refine aw_iload (pcn := 103) dX7_takesOut_101 rfl rfl ?_
    refine aw_isub (pcn := 104) dX7_takesOut_103 rfl ?_
    refine aw_iastM (j := 19) (pcn := 105) hW dX7_takesOut_104 rfl (show _ < 2240 by omega) (fun h hW => ?_)
    refine aw_alo 0 (pcn := 106) rfl dX7_takesOut_105 rfl rfl (rf_some _) ?_
    refine aw_getf (pcn := 109) fl_X7_52 dX7_takesOut_106 rfl hW.mo rfl ?_
    refine aw_bipush (v := nI 35) (pcn := 111) dX7_takesOut_109 rfl (by decide) ?_
    refine aw_ilo 2 (pcn := 112) rfl dX7_takesOut_111 rfl rfl ?_
    refine aw_imulN (pcn := 113) dX7_takesOut_112 rfl ?_
    refine aw_bipush (v := nI 10) (pcn := 115) dX7_takesOut_113 rfl (by decide) ?_
    refine aw_iaddN (pcn := 116) dX7_takesOut_115 rfl ?_
    refine aw_iload (pcn := 118) dX7_takesOut_116 rfl rfl ?_
    refine aw_iaddN (pcn := 119) dX7_takesOut_118 rfl ?_
    refine aw_iconst (v := nI 0) (pcn := 120) dX7_takesOut_119 rfl (by decide) ?_
    refine aw_iastM (j := 19) (pcn := 121) hW dX7_takesOut_120 rfl (show _ < 2240 by omega) (fun h hW => ?_)
    refine aw_iinc (v := nI 2) (pcn := 124) dX7_takesOut_121 rfl (by decide) rfl (by decide) ?_
    dsimp only [List.set_cons_zero, List.set_cons_succ]
    refine aw_goto (t := 50) dX7_takesOut_124 (by decide) ?_
    have hW : WD Γ ow h T (poT Tr S 2) nh := hW
    refine aw_iload (pcn := 52) dX7_takesOut_50 rfl rfl ?_
    refine aw_bipush (v := nI 6) (pcn := 54) dX7_takesOut_52 rfl (by decide) ?_
    refine aw_icmp_ge (t := 127) (pcn := 57) dX7_takesOut_54 rfl (by decide) (fun q11 => absurd q11 (by decide)) (fun q11 => ?_)
    refine aw_alo 0 (pcn := 58) rfl dX7_takesOut_57 rfl rfl (rf_some _) ?_
    refine aw_getf (pcn := 61) fl_X7_52 dX7_takesOut_58 rfl hW.mo rfl ?_
    refine aw_bipush (v := nI 35) (pcn := 63) dX7_takesOut_61 rfl (by decide) ?_
    refine aw_ilo 2 (pcn := 64) rfl dX7_takesOut_63 rfl rfl ?_
    refine aw_imulN (pcn := 65) dX7_takesOut_64 rfl ?_
    refine aw_bipush (v := nI 10) (pcn := 67) dX7_takesOut_65 rfl (by decide) ?_
    refine aw_iaddN (pcn := 68) dX7_takesOut_67 rfl ?_
    refine aw_iload (pcn := 70) dX7_takesOut_68 rfl rfl ?_
    refine aw_iaddN (pcn := 71) dX7_takesOut_70 rfl ?_
    refine aw_ialdM (j := 19) (pcn := 72) hW dX7_takesOut_71 rfl (show _ < 2240 by omega) ?_
    refine aw_istore (pcn := 74) dX7_takesOut_72 rfl (by decide) ?_
    dsimp only [List.set_cons_zero, List.set_cons_succ]
    refine aw_alo 0 (pcn := 75) rfl dX7_takesOut_74 rfl rfl (rf_some _) ?_
    refine aw_getf (pcn := 78) fl_X7_7 dX7_takesOut_75 rfl hW.mo rfl ?_
    refine aw_iload (pcn := 80) dX7_takesOut_78 rfl rfl ?_
    refine aw_dup2 (pcn := 81) dX7_takesOut_80 rfl rfl rfl ?_
    refine aw_ialdM (j := 0) (pcn := 82) hW dX7_takesOut_81 rfl (show _ < 6 by omega) ?_
    refine aw_iload (pcn := 84) dX7_takesOut_82 rfl rfl ?_
    refine aw_iadd (pcn := 85) dX7_takesOut_84 rfl ?_
    refine aw_iastM (j := 0) (pcn := 86) hW dX7_takesOut_85 rfl (show _ < 6 by omega) (fun h hW => ?_)
    refine aw_alo 0 (pcn := 87) rfl dX7_takesOut_86 rfl rfl (rf_some _) ?_
    refine aw_getf (pcn := 90) fl_X7_52 dX7_takesOut_87 rfl hW.mo rfl ?_
    refine aw_bipush (v := nI 35) (pcn := 92) dX7_takesOut_90 rfl (by decide) ?_
    refine aw_ilo 2 (pcn := 93) rfl dX7_takesOut_92 rfl rfl ?_
    refine aw_imulN (pcn := 94) dX7_takesOut_93 rfl ?_
    refine aw_iconst (v := nI 4) (pcn := 95) dX7_takesOut_94 rfl (by decide) ?_
    refine aw_iaddN (pcn := 96) dX7_takesOut_95 rfl ?_
    refine aw_iload (pcn := 98) dX7_takesOut_96 rfl rfl ?_
    refine aw_iaddN (pcn := 99) dX7_takesOut_98 rfl ?_
    refine aw_dup2 (pcn := 100) dX7_takesOut_99 rfl rfl rfl ?_
    refine aw_ialdM (j := 19) (pcn := 101) hW dX7_takesOut_100 rfl (show _ < 2240 by omega) ?_
    refine aw_iload (pcn := 103) dX7_takesOut_101 rfl rfl ?_
    refine aw_isub (pcn := 104) dX7_takesOut_103 rfl ?_
    refine aw_iastM (j := 19) (pcn := 105) hW dX7_takesOut_104 rfl (show _ < 2240 by omega) (fun h hW => ?_)
    refine aw_alo 0 (pcn := 106) rfl dX7_takesOut_105 rfl rfl (rf_some _) ?_
    refine aw_getf (pcn := 109) fl_X7_52 dX7_takesOut_106 rfl hW.mo rfl ?_
    refine aw_bipush (v := nI 35) (pcn := 111) dX7_takesOut_109 rfl (by decide) ?_
    refine aw_ilo 2 (pcn := 112) rfl dX7_takesOut_111 rfl rfl ?_
    refine aw_imulN (pcn := 113) dX7_takesOut_112 rfl ?_
    refine aw_bipush (v := nI 10) (pcn := 115) dX7_takesOut_113 rfl (by decide) ?_
    refine aw_iaddN (pcn := 116) dX7_takesOut_115 rfl ?_
    refine aw_iload (pcn := 118) dX7_takesOut_116 rfl rfl ?_
    refine aw_iaddN (pcn := 119) dX7_takesOut_118 rfl ?_
    refine aw_iconst (v := nI 0) (pcn := 120) dX7_takesOut_119 rfl (by decide) ?_
    refine aw_iastM (j := 19) (pcn := 121) hW dX7_takesOut_120 rfl (show _ < 2240 by omega) (fun h hW => ?_)
    refine aw_iinc (v := nI 3) (pcn := 124) dX7_takesOut_121 rfl (by decide) rfl (by decide) ?_
    dsimp only [List.set_cons_zero, List.set_cons_succ]
    refine aw_goto (t := 50) dX7_takesOut_124 (by decide) ?_
    have hW : WD Γ ow h T (poT Tr S 3) nh := hW
    refine aw_iload (pcn := 52) dX7_takesOut_50 rfl rfl ?_
    refine aw_bipush (v := nI 6) (pcn := 54) dX7_takesOut_52 rfl (by decide) ?_
    refine aw_icmp_ge (t := 127) (pcn := 57) dX7_takesOut_54 rfl (by decide) (fun q12 => absurd q12 (by decide)) (fun q12 => ?_)
    refine aw_alo 0 (pcn := 58) rfl dX7_takesOut_57 rfl rfl (rf_some _) ?_
    refine aw_getf (pcn := 61) fl_X7_52 dX7_takesOut_58 rfl hW.mo rfl ?_
    refine aw_bipush (v := nI 35) (pcn := 63) dX7_takesOut_61 rfl (by decide) ?_
    refine aw_ilo 2 (pcn := 64) rfl dX7_takesOut_63 rfl rfl ?_
    refine aw_imulN (pcn := 65) dX7_takesOut_64 rfl ?_
    refine aw_bipush (v := nI 10) (pcn := 67) dX7_takesOut_65 rfl (by decide) ?_
    refine aw_iaddN (pcn := 68) dX7_takesOut_67 rfl ?_
    refine aw_iload (pcn := 70) dX7_takesOut_68 rfl rfl ?_
    refine aw_iaddN (pcn := 71) dX7_takesOut_70 rfl ?_
    refine aw_ialdM (j := 19) (pcn := 72) hW dX7_takesOut_71 rfl (show _ < 2240 by omega) ?_
    refine aw_istore (pcn := 74) dX7_takesOut_72 rfl (by decide) ?_
    dsimp only [List.set_cons_zero, List.set_cons_succ]
    refine aw_alo 0 (pcn := 75) rfl dX7_takesOut_74 rfl rfl (rf_some _) ?_
    refine aw_getf (pcn := 78) fl_X7_7 dX7_takesOut_75 rfl hW.mo rfl ?_
    refine aw_iload (pcn := 80) dX7_takesOut_78 rfl rfl ?_
    refine aw_dup2 (pcn := 81) dX7_takesOut_80 rfl rfl rfl ?_
    refine aw_ialdM (j := 0) (pcn := 82) hW dX7_takesOut_81 rfl (show _ < 6 by omega) ?_
    refine aw_iload (pcn := 84) dX7_takesOut_82 rfl rfl ?_
    refine aw_iadd (pcn := 85) dX7_takesOut_84 rfl ?_
    refine aw_iastM (j := 0) (pcn := 86) hW dX7_takesOut_85 rfl (show _ < 6 by omega) (fun h hW => ?_)
    refine aw_alo 0 (pcn := 87) rfl dX7_takesOut_86 rfl rfl (rf_some _) ?_
    refine aw_getf (pcn := 90) fl_X7_52 dX7_takesOut_87 rfl hW.mo rfl ?_
    refine aw_bipush (v := nI 35) (pcn := 92) dX7_takesOut_90 rfl (by decide) ?_
    refine aw_ilo 2 (pcn := 93) rfl dX7_takesOut_92 rfl rfl ?_
    refine aw_imulN (pcn := 94) dX7_takesOut_93 rfl ?_
    refine aw_iconst (v := nI 4) (pcn := 95) dX7_takesOut_94 rfl (by decide) ?_
    refine aw_iaddN (pcn := 96) dX7_takesOut_95 rfl ?_
    refine aw_iload (pcn := 98) dX7_takesOut_96 rfl rfl ?_
    refine aw_iaddN (pcn := 99) dX7_takesOut_98 rfl ?_
    refine aw_dup2 (pcn := 100) dX7_takesOut_99 rfl rfl rfl ?_
    refine aw_ialdM (j := 19) (pcn := 101) hW dX7_takesOut_100 rfl (show _ < 2240 by omega) ?_
    refine aw_iload (pcn := 103) dX7_takesOut_101 rfl rfl ?_
    refine aw_isub (pcn := 104) dX7_takesOut_103 rfl ?_
    refine aw_iastM (j := 19) (pcn := 105) hW dX7_takesOut_104 rfl (show _ < 2240 by omega) (fun h hW => ?_)
    refine aw_alo 0 (pcn := 106) rfl dX7_takesOut_105 rfl rfl (rf_some _) ?_
    refine aw_getf (pcn := 109) fl_X7_52 dX7_takesOut_106 rfl hW.mo rfl ?_
    refine aw_bipush (v := nI 35) (pcn := 111) dX7_takesOut_109 rfl (by decide) ?_
    refine aw_ilo 2 (pcn := 112) rfl dX7_takesOut_111 rfl rfl ?_
    refine aw_imulN (pcn := 113) dX7_takesOut_112 rfl ?_
    refine aw_bipush (v := nI 10) (pcn := 115) dX7_takesOut_113 rfl (by decide) ?_
    refine aw_iaddN (pcn := 116) dX7_takesOut_115 rfl ?_
    refine aw_iload (pcn := 118) dX7_takesOut_116 rfl rfl ?_
    refine aw_iaddN (pcn := 119) dX7_takesOut_118 rfl ?_
    refine aw_iconst (v := nI 0) (pcn := 120) dX7_takesOut_119 rfl (by decide) ?_
    refine aw_iastM (j := 19) (pcn := 121) hW dX7_takesOut_120 rfl (show _ < 2240 by omega) (fun h hW => ?_)
    refine aw_iinc (v := nI 4) (pcn := 124) dX7_takesOut_121 rfl (by decide) rfl (by decide) ?_
    dsimp only [List.set_cons_zero, List.set_cons_succ]
    refine aw_goto (t := 50) dX7_takesOut_124 (by decide) ?_
    have hW : WD Γ ow h T (poT Tr S 4) nh := hW
    refine aw_iload (pcn := 52) dX7_takesOut_50 rfl rfl ?_
    refine aw_bipush (v := nI 6) (pcn := 54) dX7_takesOut_52 rfl (by decide) ?_
    refine aw_icmp_ge (t := 127) (pcn := 57) dX7_takesOut_54 rfl (by decide) (fun q13 => absurd q13 (by decide)) (fun q13 => ?_)
    refine aw_alo 0 (pcn := 58) rfl dX7_takesOut_57 rfl rfl (rf_some _) ?_
    refine aw_getf (pcn := 61) fl_X7_52 dX7_takesOut_58 rfl hW.mo rfl ?_
    refine aw_bipush (v := nI 35) (pcn := 63) dX7_takesOut_61 rfl (by decide) ?_
    refine aw_ilo 2 (pcn := 64) rfl dX7_takesOut_63 rfl rfl ?_
    refine aw_imulN (pcn := 65) dX7_takesOut_64 rfl ?_
    refine aw_bipush (v := nI 10) (pcn := 67) dX7_takesOut_65 rfl (by decide) ?_
    refine aw_iaddN (pcn := 68) dX7_takesOut_67 rfl ?_
    refine aw_iload (pcn := 70) dX7_takesOut_68 rfl rfl ?_
    refine aw_iaddN (pcn := 71) dX7_takesOut_70 rfl ?_
    refine aw_ialdM (j := 19) (pcn := 72) hW dX7_takesOut_71 rfl (show _ < 2240 by omega) ?_
    refine aw_istore (pcn := 74) dX7_takesOut_72 rfl (by decide) ?_
    dsimp only [List.set_cons_zero, List.set_cons_succ]
    refine aw_alo 0 (pcn := 75) rfl dX7_takesOut_74 rfl rfl (rf_some _) ?_
    refine aw_getf (pcn := 78) fl_X7_7 dX7_takesOut_75 rfl hW.mo rfl ?_
    refine aw_iload (pcn := 80) dX7_takesOut_78 rfl rfl ?_
    refine aw_dup2 (pcn := 81) dX7_takesOut_80 rfl rfl rfl ?_
    refine aw_ialdM (j := 0) (pcn := 82) hW dX7_takesOut_81 rfl (show _ < 6 by omega) ?_
    refine aw_iload (pcn := 84) dX7_takesOut_82 rfl rfl ?_
    refine aw_iadd (pcn := 85) dX7_takesOut_84 rfl ?_
    refine aw_iastM (j := 0) (pcn := 86) hW dX7_takesOut_85 rfl (show _ < 6 by omega) (fun h hW => ?_)
    refine aw_alo 0 (pcn := 87) rfl dX7_takesOut_86 rfl rfl (rf_some _) ?_
    refine aw_getf (pcn := 90) fl_X7_52 dX7_takesOut_87 rfl hW.mo rfl ?_
    refine aw_bipush (v := nI 35) (pcn := 92) dX7_takesOut_90 rfl (by decide) ?_
    refine aw_ilo 2 (pcn := 93) rfl dX7_takesOut_92 rfl rfl ?_
    refine aw_imulN (pcn := 94) dX7_takesOut_93 rfl ?_
    refine aw_iconst (v := nI 4) (pcn := 95) dX7_takesOut_94 rfl (by decide) ?_
    refine aw_iaddN (pcn := 96) dX7_takesOut_95 rfl ?_
    refine aw_iload (pcn := 98) dX7_takesOut_96 rfl rfl ?_
    refine aw_iaddN (pcn := 99) dX7_takesOut_98 rfl ?_
    refine aw_dup2 (pcn := 100) dX7_takesOut_99 rfl rfl rfl ?_
    refine aw_ialdM (j := 19) (pcn := 101) hW dX7_takesOut_100 rfl (show _ < 2240 by omega) ?_
    refine aw_iload (pcn := 103) dX7_takesOut_101 rfl rfl ?_
    refine aw_isub (pcn := 104) dX7_takesOut_103 rfl ?_
    refine aw_iastM (j := 19) (pcn := 105) hW dX7_takesOut_104 rfl (show _ < 2240 by omega) (fun h hW => ?_)
    refine aw_alo 0 (pcn := 106) rfl dX7_takesOut_105 rfl rfl (rf_some _) ?_
    refine aw_getf (pcn := 109) fl_X7_52 dX7_takesOut_106 rfl hW.mo rfl ?_
    refine aw_bipush (v := nI 35) (pcn := 111) dX7_takesOut_109 rfl (by decide) ?_
    refine aw_ilo 2 (pcn := 112) rfl dX7_takesOut_111 rfl rfl ?_
    refine aw_imulN (pcn := 113) dX7_takesOut_112 rfl ?_
    refine aw_bipush (v := nI 10) (pcn := 115) dX7_takesOut_113 rfl (by decide) ?_
    refine aw_iaddN (pcn := 116) dX7_takesOut_115 rfl ?_
    refine aw_iload (pcn := 118) dX7_takesOut_116 rfl rfl ?_
    refine aw_iaddN (pcn := 119) dX7_takesOut_118 rfl ?_
    refine aw_iconst (v := nI 0) (pcn := 120) dX7_takesOut_119 rfl (by decide) ?_
    refine aw_iastM (j := 19) (pcn := 121) hW dX7_takesOut_120 rfl (show _ < 2240 by omega) (fun h hW => ?_)
    refine aw_iinc (v := nI 5) (pcn := 124) dX7_takesOut_121 rfl (by decide) rfl (by decide) ?_
    dsimp only [List.set_cons_zero, List.set_cons_succ]
    refine aw_goto (t := 50) dX7_takesOut_124 (by decide) ?_
    have hW : WD Γ ow h T (poT Tr S 5) nh := hW
    refine aw_iload (pcn := 52) dX7_takesOut_50 rfl rfl ?_
    refine aw_bipush (v := nI 6) (pcn := 54) dX7_takesOut_52 rfl (by decide) ?_
    refine aw_icmp_ge (t := 127) (pcn := 57) dX7_takesOut_54 rfl (by decide) (fun q14 => absurd q14 (by decide)) (fun q14 => ?_)
    refine aw_alo 0 (pcn := 58) rfl dX7_takesOut_57 rfl rfl (rf_some _) ?_
    refine aw_getf (pcn := 61) fl_X7_52 dX7_takesOut_58 rfl hW.mo rfl ?_
    refine aw_bipush (v := nI 35) (pcn := 63) dX7_takesOut_61 rfl (by decide) ?_
    refine aw_ilo 2 (pcn := 64) rfl dX7_takesOut_63 rfl rfl ?_
    refine aw_imulN (pcn := 65) dX7_takesOut_64 rfl ?_
    refine aw_bipush (v := nI 10) (pcn := 67) dX7_takesOut_65 rfl (by decide) ?_
    refine aw_iaddN (pcn := 68) dX7_takesOut_67 rfl ?_
    refine aw_iload (pcn := 70) dX7_takesOut_68 rfl rfl ?_
    refine aw_iaddN (pcn := 71) dX7_takesOut_70 rfl ?_
    refine aw_ialdM (j := 19) (pcn := 72) hW dX7_takesOut_71 rfl (show _ < 2240 by omega) ?_
    refine aw_istore (pcn := 74) dX7_takesOut_72 rfl (by decide) ?_
    dsimp only [List.set_cons_zero, List.set_cons_succ]
    refine aw_alo 0 (pcn := 75) rfl dX7_takesOut_74 rfl rfl (rf_some _) ?_
    refine aw_getf (pcn := 78) fl_X7_7 dX7_takesOut_75 rfl hW.mo rfl ?_
    refine aw_iload (pcn := 80) dX7_takesOut_78 rfl rfl ?_
    refine aw_dup2 (pcn := 81) dX7_takesOut_80 rfl rfl rfl ?_
    refine aw_ialdM (j := 0) (pcn := 82) hW dX7_takesOut_81 rfl (show _ < 6 by omega) ?_
    refine aw_iload (pcn := 84) dX7_takesOut_82 rfl rfl ?_
    refine aw_iadd (pcn := 85) dX7_takesOut_84 rfl ?_
    refine aw_iastM (j := 0) (pcn := 86) hW dX7_takesOut_85 rfl (show _ < 6 by omega) (fun h hW => ?_)
    refine aw_alo 0 (pcn := 87) rfl dX7_takesOut_86 rfl rfl (rf_some _) ?_
    refine aw_getf (pcn := 90) fl_X7_52 dX7_takesOut_87 rfl hW.mo rfl ?_
    refine aw_bipush (v := nI 35) (pcn := 92) dX7_takesOut_90 rfl (by decide) ?_
    refine aw_ilo 2 (pcn := 93) rfl dX7_takesOut_92 rfl rfl ?_
    refine aw_imulN (pcn := 94) dX7_takesOut_93 rfl ?_
    refine aw_iconst (v := nI 4) (pcn := 95) dX7_takesOut_94 rfl (by decide) ?_
    refine aw_iaddN (pcn := 96) dX7_takesOut_95 rfl ?_
    refine aw_iload (pcn := 98) dX7_takesOut_96 rfl rfl ?_
    refine aw_iaddN (pcn := 99) dX7_takesOut_98 rfl ?_
    refine aw_dup2 (pcn := 100) dX7_takesOut_99 rfl rfl rfl ?_
    refine aw_ialdM (j := 19) (pcn := 101) hW dX7_takesOut_100 rfl (show _ < 2240 by omega) ?_
    refine aw_iload (pcn := 103) dX7_takesOut_101 rfl rfl ?_
    refine aw_isub (pcn := 104) dX7_takesOut_103 rfl ?_
    refine aw_iastM (j := 19) (pcn := 105) hW dX7_takesOut_104 rfl (show _ < 2240 by omega) (fun h hW => ?_)
    refine aw_alo 0 (pcn := 106) rfl dX7_takesOut_105 rfl rfl (rf_some _) ?_
    refine aw_getf (pcn := 109) fl_X7_52 dX7_takesOut_106 rfl hW.mo rfl ?_
    refine aw_bipush (v := nI 35) (pcn := 111) dX7_takesOut_109 rfl (by decide) ?_
    refine aw_ilo 2 (pcn := 112) rfl dX7_takesOut_111 rfl rfl ?_
    refine aw_imulN (pcn := 113) dX7_takesOut_112 rfl ?_
    refine aw_bipush (v := nI 10) (pcn := 115) dX7_takesOut_113 rfl (by decide) ?_
    refine aw_iaddN (pcn := 116) dX7_takesOut_115 rfl ?_
    refine aw_iload (pcn := 118) dX7_takesOut_116 rfl rfl ?_
    refine aw_iaddN (pcn := 119) dX7_takesOut_118 rfl ?_
    refine aw_iconst (v := nI 0) (pcn := 120) dX7_takesOut_119 rfl (by decide) ?_
    refine aw_iastM (j := 19) (pcn := 121) hW dX7_takesOut_120 rfl (show _ < 2240 by omega) (fun h hW => ?_)
    refine aw_iinc (v := nI 6) (pcn := 124) dX7_takesOut_121 rfl (by decide) rfl (by decide) ?_
    dsimp only [List.set_cons_zero, List.set_cons_succ]
    refine aw_goto (t := 50) dX7_takesOut_124 (by decide) ?_
    have hW : WD Γ ow h T (poT Tr S 6) nh := hW
    refine aw_iload (pcn := 52) dX7_takesOut_50 rfl rfl ?_
    refine aw_bipush (v := nI 6) (pcn := 54) dX7_takesOut_52 rfl (by decide) ?_
    refine aw_icmp_ge (t := 127) (pcn := 57) dX7_takesOut_54 rfl (by decide) (fun q15 => ?_) (fun q15 => absurd (by decide) q15)
    refine aw_alo 0 (pcn := 128) rfl dX7_takesOut_127 rfl rfl (rf_some _) ?_
    refine aw_getf (pcn := 131) fl_X7_22 dX7_takesOut_128 rfl hW.mo rfl ?_
    refine aw_ilo 1 (pcn := 132) rfl dX7_takesOut_131 rfl rfl ?_
    refine aw_dup2 (pcn := 133) dX7_takesOut_132 rfl rfl rfl ?_
    refine aw_ialdM (j := 8) (pcn := 134) hW dX7_takesOut_133 rfl (show _ < 8 by omega) ?_
    refine aw_ilo 3 (pcn := 135) rfl dX7_takesOut_134 rfl rfl ?_
    refine aw_isub (pcn := 136) dX7_takesOut_135 rfl ?_
    refine aw_iastM (j := 8) (pcn := 137) hW dX7_takesOut_136 rfl (show _ < 8 by omega) (fun h hW => ?_)
    refine aw_alo 0 (pcn := 138) rfl dX7_takesOut_137 rfl rfl (rf_some _) ?_
    refine aw_getf (pcn := 141) fl_X7_52 dX7_takesOut_138 rfl hW.mo rfl ?_
    refine aw_bipush (v := nI 35) (pcn := 143) dX7_takesOut_141 rfl (by decide) ?_
    refine aw_ilo 2 (pcn := 144) rfl dX7_takesOut_143 rfl rfl ?_
    refine aw_imulN (pcn := 145) dX7_takesOut_144 rfl ?_
    refine aw_iconst (v := nI 3) (pcn := 146) dX7_takesOut_145 rfl (by decide) ?_
    refine aw_iaddN (pcn := 147) dX7_takesOut_146 rfl ?_
    refine aw_iconst (v := nI 0) (pcn := 148) dX7_takesOut_147 rfl (by decide) ?_
    refine aw_iastM (j := 19) (pcn := 149) hW dX7_takesOut_148 rfl (show _ < 2240 by omega) (fun h hW => ?_)
    exact aw_ret dX7_takesOut_149 rfl ⟨rfl, by unfold toT; rw [if_neg (by assumption)]; exact hW⟩
  · refine aw_alo 0 (pcn := 41) rfl dX7_takesOut_40 rfl rfl (rf_some _) ?_
    refine aw_ilo 1 (pcn := 42) rfl dX7_takesOut_41 rfl rfl ?_
    refine aw_ilo 2 (pcn := 43) rfl dX7_takesOut_42 rfl rfl ?_
    refine aw_Vv (pcn := 46) (r_end hW (S := S) (c := c) hS hc8 hf) mf_X7_end mv_X7_end hW.mo rfl ml_X7_114 rfl (by decide) (by decide) (by decide) (by exact Nat.le_of_ble_eq_true rfl) rfl dX7_takesOut_43 rfl (fun h hW => ?_)
    exact aw_ret dX7_takesOut_46 rfl ⟨rfl, by unfold toT; rw [if_pos (by assumption)]; exact hW⟩
