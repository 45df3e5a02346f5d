/-- how many states of a channel there are below n -/
def rkT (T : TB) (c : Nat) : Nat → Int32
  | 0 => nI 0
  | n + 1 => rkT T c n + (if T 19 (35 * n + 0) = nI c then nI 1 else nI 0)
def zrT (T : TB) (n : Nat) : Nat → TB
  | 0 => T
  | k + 1 => up (zrT T n k) 19 (35 * n + k) (nI 0)
theorem zrT_j (T : TB) (n k : Nat) {j : Nat} (i : Nat) (h : j ≠ 19) : zrT T n k j i = T j i := by
  induction k with
  | zero => rfl
  | succ k ih => rw [zrT, up_j _ _ _ _ h, ih]
def blkT (T : TB) (c n : Nat) : TB := up (up (up (up (up (up (zrT T n 35) 19 (35 * n + 0) (nI c)) 19 (35 * n + 1) (rkT T c n)) 19 (35 * n + 33) (-1)) 19 (35 * n + 34) (-1)) 18 0 (nI (n + 1))) 24 c (T 24 c + nI 1)
def cpT (T : TB) (n s : Nat) : Nat → TB
  | 0 => T
  | i + 1 => up (cpT T n s i) 19 (35 * n + (4 + i)) (if inR (nI (4 + i)) (nI 10) (nI 15) = true then nI 0 else (cpT T n s i) 19 (35 * s + (4 + i)))
/-- a state more, as the state s -/
def copT (T : TB) (c n s : Nat) : TB := cpT (blkT T c n) n s 31
def du1 (T : TB) (c : Nat) : TB := if T 9 c = nI 2 ∧ T 11 c = T 2 0 then endT T c (ix (T 10 c)) else T
def dlT (T : TB) (c b k : Nat) : TB := if hasB (T 12 c) (nI k) = true ∧ T 19 (35 * b + 16 + 5 * k + 4) = T 2 0 then paysT T c k (ix (T 19 (35 * b + 16 + 5 * k + 1))) b else T
def dl3 (T : TB) (c b : Nat) : TB := dlT (dlT (dlT T c b 0) c b 1) c b 2
def dgT (T : TB) (c : Nat) : TB := if 0 < T 13 c ∧ T 17 c = T 2 0 then winT T c (ix (T 16 c)) else T
def duesT (T : TB) (c b : Nat) : TB := dgT (dl3 (du1 T c) c b) c
theorem dlT_j (T : TB) (c b k : Nat) {j : Nat} (i : Nat) (h0 : j ≠ 0) (h8 : j ≠ 8) (h12 : j ≠ 12) : dlT T c b k j i = T j i := by
  unfold dlT
  split
  · exact paysT_j _ _ _ _ _ _ h0 h8 h12
  · rfl
def urI (T : TB) (c s p k : Nat) (D : Int32) : Int32 := if D = 0 then (if T 19 (35 * s + 16 + 5 * k + 0) ≤ 0 then nI 0 else if T 19 (35 * s + 16 + 5 * k + 2) = nI p then (if hasB (T 4 (ix (T 19 (35 * s + 16 + 5 * k + 3)))) (nI p) = true then (if T 19 (35 * s + 16 + 5 * k + 4) = T 2 0 + T 7 c + nI 1 then nI 1 else nI 0) else nI 0) else nI 0) else nI 1
def ur3 (T : TB) (c s p : Nat) : Int32 := urI T c s p 2 (urI T c s p 1 (urI T c s p 0 (nI 0)))
def cwT (T : TB) (c b p k : Nat) : TB := if canT T c b k p = true then clmT T c b k p else T
def cw3 (T : TB) (c b p : Nat) : TB := cwT (cwT (cwT T c b p 0) c b p 1) c b p 2
def rem4 (x : Int32) : Int32 := x - x / nI 4 * nI 4
def plyT (T : TB) (c p : Nat) : TB := if 0 < T 13 c ∧ T 15 c = nI p then (if rem4 (T 14 c) = 0 then stpT T c (nI 1) else stpT T c (rem4 (T 14 c))) else T
def watT (T : TB) (c s b p : Nat) : TB := if T 9 c = nI 1 then (if ur3 T c s p = 0 then T else showsT T c s) else if T 9 c = nI 2 then showsT T c s else plyT (cw3 T c b p) c p
/-! the reference: blank, copied, dues, watches -/
set_option maxHeartbeats 8000000 in
set_option maxRecDepth 20000 in
theorem r_blank {X : XG} {l : Launch} {Γ : NM} {ow : Nat → Nat × Nat} {h : Hp} {T Tr : TB} {nh : Nat} (hW : WD Γ ow h T Tr nh) {c n : Nat} (hn : Tr 18 0 = nI n) (hn64 : n < 64) : AM X l yX7_blank cX7_blank 5 (some .int) 1 0 0 [.ref (Γ 14 0), .int (nI c)] h (qi fun r h' => r = nI n ∧ WD Γ ow h' T (blkT Tr c n) nh) := by
  refine AM.of (by decide +kernel) (by simp [Value.category]) (Nat.le_of_ble_eq_true rfl) ?_
  show AW X l cX7_blank RX7 "blank" (some .int) 5 1 none _ 0 0 0 [some (.ref (Γ 14 0)), some (.int (nI c)), none, none, none] [] h
  refine aw_iconst (v := nI 0) (pcn := 1) dX7_blank_0 rfl (by decide) ?_
  refine aw_ist 2 (pcn := 2) rfl dX7_blank_1 rfl (by decide) ?_
  dsimp only [List.set_cons_zero, List.set_cons_succ]
  refine aw_iconst (v := nI 0) (pcn := 3) dX7_blank_2 rfl (by decide) ?_
  refine aw_ist 3 (pcn := 4) rfl dX7_blank_3 rfl (by decide) ?_
  dsimp only [List.set_cons_zero, List.set_cons_succ]
  have H : ∀ (m k : Nat), k + m = n → AW X l cX7_blank RX7 "blank" (some .int) 5 1 none (qi fun r h' => r = nI n ∧ WD Γ ow h' T (blkT Tr c n) nh) 0 0 4 [some (.ref (Γ 14 0)), some (.int (nI c)), some (.int (rkT Tr c k)), some (.int (nI (k))), none] [] h := by
    intro m
    induction m with
    | zero  =>
      intro k hk
      refine aw_ilo 3 (pcn := 5) rfl dX7_blank_4 rfl rfl ?_
      refine aw_alo 0 (pcn := 6) rfl dX7_blank_5 rfl rfl (rf_some _) ?_
      refine aw_getf (pcn := 9) fl_X7_72 dX7_blank_6 rfl hW.mo rfl ?_
      rw [hn]
      obtain rfl : n = k := by omega
      refine aw_icmp_ge (t := 35) (pcn := 12) dX7_blank_9 rfl (by decide) (fun _ => ?_) (fun q => absurd (Int32.le_refl _) q)
      refine aw_bipush (v := nI 35) (pcn := 37) dX7_blank_35 rfl (by decide) ?_
      refine aw_alo 0 (pcn := 38) rfl dX7_blank_37 rfl rfl (rf_some _) ?_
      refine aw_getf (pcn := 41) fl_X7_72 dX7_blank_38 rfl hW.mo rfl ?_
      rw [hn]
      refine aw_imulN (pcn := 42) dX7_blank_41 rfl ?_
      refine aw_ist 3 (pcn := 43) rfl dX7_blank_42 rfl (by decide) ?_
      dsimp only [List.set_cons_zero, List.set_cons_succ]
      refine aw_iconst (v := nI 0) (pcn := 44) dX7_blank_43 rfl (by decide) ?_
      refine aw_istore (pcn := 46) dX7_blank_44 rfl (by decide) ?_
      dsimp only [List.set_cons_zero, List.set_cons_succ]
      have H2 : ∀ (m2 k2 : Nat), k2 + m2 = 35 → ∀ h, WD Γ ow h T (zrT Tr n k2) nh → AW X l cX7_blank RX7 "blank" (some .int) 5 1 none (qi fun r h' => r = nI n ∧ WD Γ ow h' T (blkT Tr c n) nh) 0 0 46 [some (.ref (Γ 14 0)), some (.int (nI c)), some (.int (rkT Tr c n)), some (.int (nI (35 * n))), some (.int (nI k2))] [] h := by
        intro m2
        induction m2 with
        | zero  =>
          intro k2 hk2 h hW
          obtain rfl : k2 = 35 := by omega
          refine aw_iload (pcn := 48) dX7_blank_46 rfl rfl ?_
          refine aw_bipush (v := nI 35) (pcn := 50) dX7_blank_48 rfl (by decide) ?_
          refine aw_icmp_ge (t := 69) (pcn := 53) dX7_blank_50 rfl (by decide) (fun _ => ?_) (fun q => absurd (Int32.le_refl _) q)
          refine aw_alo 0 (pcn := 70) rfl dX7_blank_69 rfl rfl (rf_some _) ?_
          refine aw_getf (pcn := 73) fl_X7_52 dX7_blank_70 rfl hW.mo rfl ?_
          refine aw_ilo 3 (pcn := 74) rfl dX7_blank_73 rfl rfl ?_
          refine aw_iconst (v := nI 0) (pcn := 75) dX7_blank_74 rfl (by decide) ?_
          refine aw_iaddN (pcn := 76) dX7_blank_75 rfl ?_
          refine aw_ilo 1 (pcn := 77) rfl dX7_blank_76 rfl rfl ?_
          refine aw_iastM (j := 19) (pcn := 78) hW dX7_blank_77 rfl (show _ < 2240 by omega) (fun h hW => ?_)
          refine aw_alo 0 (pcn := 79) rfl dX7_blank_78 rfl rfl (rf_some _) ?_
          refine aw_getf (pcn := 82) fl_X7_52 dX7_blank_79 rfl hW.mo rfl ?_
          refine aw_ilo 3 (pcn := 83) rfl dX7_blank_82 rfl rfl ?_
          refine aw_iconst (v := nI 1) (pcn := 84) dX7_blank_83 rfl (by decide) ?_
          refine aw_iaddN (pcn := 85) dX7_blank_84 rfl ?_
          refine aw_ilo 2 (pcn := 86) rfl dX7_blank_85 rfl rfl ?_
          refine aw_iastM (j := 19) (pcn := 87) hW dX7_blank_86 rfl (show _ < 2240 by omega) (fun h hW => ?_)
          refine aw_alo 0 (pcn := 88) rfl dX7_blank_87 rfl rfl (rf_some _) ?_
          refine aw_getf (pcn := 91) fl_X7_52 dX7_blank_88 rfl hW.mo rfl ?_
          refine aw_ilo 3 (pcn := 92) rfl dX7_blank_91 rfl rfl ?_
          refine aw_bipush (v := nI 33) (pcn := 94) dX7_blank_92 rfl (by decide) ?_
          refine aw_iaddN (pcn := 95) dX7_blank_94 rfl ?_
          refine aw_iconst (v := -1) (pcn := 96) dX7_blank_95 rfl (by decide) ?_
          refine aw_iastM (j := 19) (pcn := 97) hW dX7_blank_96 rfl (show _ < 2240 by omega) (fun h hW => ?_)
          refine aw_alo 0 (pcn := 98) rfl dX7_blank_97 rfl rfl (rf_some _) ?_
          refine aw_getf (pcn := 101) fl_X7_52 dX7_blank_98 rfl hW.mo rfl ?_
          refine aw_ilo 3 (pcn := 102) rfl dX7_blank_101 rfl rfl ?_
          refine aw_bipush (v := nI 34) (pcn := 104) dX7_blank_102 rfl (by decide) ?_
          refine aw_iaddN (pcn := 105) dX7_blank_104 rfl ?_
          refine aw_iconst (v := -1) (pcn := 106) dX7_blank_105 rfl (by decide) ?_
          refine aw_iastM (j := 19) (pcn := 107) hW dX7_blank_106 rfl (show _ < 2240 by omega) (fun h hW => ?_)
          refine aw_alo 0 (pcn := 108) rfl dX7_blank_107 rfl rfl (rf_some _) ?_
          refine aw_dup (pcn := 109) dX7_blank_108 rfl rfl ?_
          refine aw_getf (pcn := 112) fl_X7_72 dX7_blank_109 rfl hW.mo rfl ?_
          rw [show (up (up (up (up (zrT Tr n 35) 19 (35 * n + 0) (nI c)) 19 (35 * n + 1) (rkT Tr c n)) 19 (35 * n + 33) (-1)) 19 (35 * n + 34) (-1)) 18 0 = nI n from (zrT_j Tr n 35 0 (by decide)).trans hn]
          refine aw_iconst (v := nI 1) (pcn := 113) dX7_blank_112 rfl (by decide) ?_
          refine aw_iaddN (pcn := 114) dX7_blank_113 rfl ?_
          refine aw_putM (pcn := 117) hW fp_X7_72 rfl (ms_18 _ _ _) (by decide) dX7_blank_114 rfl (fun h hW => ?_)
          refine aw_alo 0 (pcn := 118) rfl dX7_blank_117 rfl rfl (rf_some _) ?_
          refine aw_getf (pcn := 121) fl_X7_72 dX7_blank_118 rfl hW.mo rfl ?_
          rw [up_s]
          refine aw_iconst (v := nI 1) (pcn := 122) dX7_blank_121 rfl (by decide) ?_
          refine aw_isub (pcn := 123) dX7_blank_122 rfl ?_
          exact aw_iret dX7_blank_123 rfl ⟨_, rfl, ⟨by rw [pk_sub (by omega)]; rfl, hW.ghost (j := 24) (i := c) (v := Tr 24 c + nI 1) (by omega)⟩⟩
        | succ m2 ih2 =>
          intro k2 hk2 h hW
          refine aw_iload (pcn := 48) dX7_blank_46 rfl rfl ?_
          refine aw_bipush (v := nI 35) (pcn := 50) dX7_blank_48 rfl (by decide) ?_
          refine aw_icmp_ge (t := 69) (pcn := 53) dX7_blank_50 rfl (by decide) (fun q => absurd q (nI_ge (by omega) (by omega))) (fun _ => ?_)
          refine aw_alo 0 (pcn := 54) rfl dX7_blank_53 rfl rfl (rf_some _) ?_
          refine aw_getf (pcn := 57) fl_X7_52 dX7_blank_54 rfl hW.mo rfl ?_
          refine aw_ilo 3 (pcn := 58) rfl dX7_blank_57 rfl rfl ?_
          refine aw_iload (pcn := 60) dX7_blank_58 rfl rfl ?_
          refine aw_iaddN (pcn := 61) dX7_blank_60 rfl ?_
          refine aw_iconst (v := nI 0) (pcn := 62) dX7_blank_61 rfl (by decide) ?_
          refine aw_iastM (j := 19) (pcn := 63) hW dX7_blank_62 rfl (show _ < 2240 by omega) (fun h hW => ?_)
          refine aw_iincN (pcn := 66) dX7_blank_63 rfl (by decide) rfl ?_
          dsimp only [List.set_cons_zero, List.set_cons_succ]
          refine aw_goto (t := 46) dX7_blank_66 (by decide) ?_
          exact ih2 (k2 + 1) (by omega) h hW
      exact H2 35 0 (by omega) h hW
    | succ m ih =>
      intro k hk
      refine aw_ilo 3 (pcn := 5) rfl dX7_blank_4 rfl rfl ?_
      refine aw_alo 0 (pcn := 6) rfl dX7_blank_5 rfl rfl (rf_some _) ?_
      refine aw_getf (pcn := 9) fl_X7_72 dX7_blank_6 rfl hW.mo rfl ?_
      rw [hn]
      refine aw_icmp_ge (t := 35) (pcn := 12) dX7_blank_9 rfl (by decide) (fun q => absurd q (nI_ge (by omega) (by omega))) (fun _ => ?_)
      refine aw_ilo 2 (pcn := 13) rfl dX7_blank_12 rfl rfl ?_
      refine aw_alo 0 (pcn := 14) rfl dX7_blank_13 rfl rfl (rf_some _) ?_
      refine aw_ilo 3 (pcn := 15) rfl dX7_blank_14 rfl rfl ?_
      refine aw_Vi (pcn := 18) (r_channelOf hW (S := _) (by omega)) mf_X7_channelOf mv_X7_channelOf hW.mo rfl ml_X7_86 rfl (by decide) (by decide) (by decide) (by exact Nat.le_of_ble_eq_true rfl) rfl dX7_blank_15 rfl (fun r h2 hq => ?_)
      obtain ⟨rfl, hq⟩ := hq
      obtain rfl := hq.symm
      refine aw_ilo 1 (pcn := 19) rfl dX7_blank_18 rfl rfl ?_
      refine aw_icmp_ne (t := 26) (pcn := 22) dX7_blank_19 rfl (by decide) (fun q1 => ?_) (fun q1 => ?_)
      · refine aw_iconst (v := nI 0) (pcn := 27) dX7_blank_26 rfl (by decide) ?_
        refine aw_iadd (pcn := 28) dX7_blank_27 rfl ?_
        refine aw_ist 2 (pcn := 29) rfl dX7_blank_28 rfl (by decide) ?_
        dsimp only [List.set_cons_zero, List.set_cons_succ]
        refine aw_iincN (pcn := 32) dX7_blank_29 rfl (by decide) rfl ?_
        dsimp only [List.set_cons_zero, List.set_cons_succ]
        refine aw_goto (t := 4) dX7_blank_32 (by decide) ?_
        have g := ih (k + 1) (by omega)
        rw [rkT] at g
        first | (rw [if_pos (by assumption)] at g; exact g) | (rw [if_neg (by assumption)] at g; exact g)
      · refine aw_iconst (v := nI 1) (pcn := 23) dX7_blank_22 rfl (by decide) ?_
        refine aw_goto (t := 27) dX7_blank_23 (by decide) ?_
        refine aw_iadd (pcn := 28) dX7_blank_27 rfl ?_
        refine aw_ist 2 (pcn := 29) rfl dX7_blank_28 rfl (by decide) ?_
        dsimp only [List.set_cons_zero, List.set_cons_succ]
        refine aw_iincN (pcn := 32) dX7_blank_29 rfl (by decide) rfl ?_
        dsimp only [List.set_cons_zero, List.set_cons_succ]
        refine aw_goto (t := 4) dX7_blank_32 (by decide) ?_
        have g := ih (k + 1) (by omega)
        rw [rkT] at g
        first | (rw [if_pos (by assumption)] at g; exact g) | (rw [if_neg (by assumption)] at g; exact g)
  exact H n 0 (by omega)

set_option maxHeartbeats 8000000 in
set_option maxRecDepth 20000 in
theorem r_copied {X : XG} {l : Launch} {Γ : NM} {ow : Nat → Nat × Nat} {h : Hp} {T Tr : TB} {nh : Nat} (hW : WD Γ ow h T Tr nh) {c n s0 : Nat} (hc8 : c < 8) (hn : Tr 18 0 = nI n) (hn64 : n < 64) (hnw : nwT Tr c n = nI s0) (hs0 : s0 < n) : AM X l yX7_copied cX7_copied 6 (some .int) 4 0 0 [.ref (Γ 14 0), .int (nI c)] h (qi fun r h' => r = nI n ∧ WD Γ ow h' T (copT Tr c n s0) nh) := by
  refine AM.of (by decide +kernel) (by simp [Value.category]) (Nat.le_of_ble_eq_true rfl) ?_
  show AW X l cX7_copied RX7 "copied" (some .int) 6 4 none _ 0 0 0 [some (.ref (Γ 14 0)), some (.int (nI c)), none, none, none, none] [] h
  refine aw_bipush (v := nI 35) (pcn := 2) dX7_copied_0 rfl (by decide) ?_
  refine aw_alo 0 (pcn := 3) rfl dX7_copied_2 rfl rfl (rf_some _) ?_
  refine aw_ilo 1 (pcn := 4) rfl dX7_copied_3 rfl rfl ?_
  refine aw_Vi (pcn := 7) (r_newest hW (c := c) (n := n) hc8 (by omega) hn) mf_X7_newest mv_X7_newest hW.mo rfl ml_X7_117 rfl (by decide) (by decide) (by decide) (by exact Nat.le_of_ble_eq_true rfl) rfl dX7_copied_4 rfl (fun r h2 hq => ?_)
  obtain ⟨rfl, hq⟩ := hq
  obtain rfl := hq.symm
  rw [hnw]
  refine aw_imulN (pcn := 8) dX7_copied_7 rfl ?_
  refine aw_ist 2 (pcn := 9) rfl dX7_copied_8 rfl (by decide) ?_
  dsimp only [List.set_cons_zero, List.set_cons_succ]
  refine aw_alo 0 (pcn := 10) rfl dX7_copied_9 rfl rfl (rf_some _) ?_
  refine aw_ilo 1 (pcn := 11) rfl dX7_copied_10 rfl rfl ?_
  refine aw_Vi (pcn := 14) (r_blank hW (c := c) (n := n) hn hn64) mf_X7_blank mv_X7_blank hW.mo rfl ml_X7_146 rfl (by decide) (by decide) (by decide) (by exact Nat.le_of_ble_eq_true rfl) rfl dX7_copied_11 rfl (fun r h hq => ?_)
  obtain ⟨rfl, hW⟩ := hq
  refine aw_ist 3 (pcn := 15) rfl dX7_copied_14 rfl (by decide) ?_
  dsimp only [List.set_cons_zero, List.set_cons_succ]
  refine aw_bipush (v := nI 35) (pcn := 17) dX7_copied_15 rfl (by decide) ?_
  refine aw_ilo 3 (pcn := 18) rfl dX7_copied_17 rfl rfl ?_
  refine aw_imulN (pcn := 19) dX7_copied_18 rfl ?_
  refine aw_istore (pcn := 21) dX7_copied_19 rfl (by decide) ?_
  dsimp only [List.set_cons_zero, List.set_cons_succ]
  refine aw_iconst (v := nI 4) (pcn := 22) dX7_copied_21 rfl (by decide) ?_
  refine aw_istore (pcn := 24) dX7_copied_22 rfl (by decide) ?_
  dsimp only [List.set_cons_zero, List.set_cons_succ]
  have H : ∀ (m k : Nat), k + m = 31 → ∀ h, WD Γ ow h T (cpT (blkT Tr c n) n s0 k) nh → AW X l cX7_copied RX7 "copied" (some .int) 6 4 none (qi fun r h' => r = nI n ∧ WD Γ ow h' T (copT Tr c n s0) nh) 0 0 24 [some (.ref (Γ 14 0)), some (.int (nI c)), some (.int (nI (35 * s0))), some (.int (nI n)), some (.int (nI (35 * n))), some (.int (nI (4 + k)))] [] h := by
    intro m
    induction m with
    | zero  =>
      intro k hk h hW
      obtain rfl : k = 31 := by omega
      refine aw_iload (pcn := 26) dX7_copied_24 rfl rfl ?_
      refine aw_bipush (v := nI 35) (pcn := 28) dX7_copied_26 rfl (by decide) ?_
      refine aw_icmp_ge (t := 72) (pcn := 31) dX7_copied_28 rfl (by decide) (fun _ => ?_) (fun q => absurd (Int32.le_refl _) q)
      refine aw_ilo 3 (pcn := 73) rfl dX7_copied_72 rfl rfl ?_
      exact aw_iret dX7_copied_73 rfl ⟨_, rfl, ⟨rfl, hW⟩⟩
    | succ m ih =>
      intro k hk h hW
      refine aw_iload (pcn := 26) dX7_copied_24 rfl rfl ?_
      refine aw_bipush (v := nI 35) (pcn := 28) dX7_copied_26 rfl (by decide) ?_
      refine aw_icmp_ge (t := 72) (pcn := 31) dX7_copied_28 rfl (by decide) (fun q => absurd q (nI_ge (by omega) (by omega))) (fun _ => ?_)
      refine aw_alo 0 (pcn := 32) rfl dX7_copied_31 rfl rfl (rf_some _) ?_
      refine aw_getf (pcn := 35) fl_X7_52 dX7_copied_32 rfl hW.mo rfl ?_
      refine aw_iload (pcn := 37) dX7_copied_35 rfl rfl ?_
      refine aw_iload (pcn := 39) dX7_copied_37 rfl rfl ?_
      refine aw_iaddN (pcn := 40) dX7_copied_39 rfl ?_
      refine aw_iload (pcn := 42) dX7_copied_40 rfl rfl ?_
      refine aw_bipush (v := nI 10) (pcn := 44) dX7_copied_42 rfl (by decide) ?_
      refine aw_bipush (v := nI 15) (pcn := 46) dX7_copied_44 rfl (by decide) ?_
      refine aw_Si (pcn := 49) (r_isIn _ _ _) mf_X7_isIn mv_X7_isIn ml_X7_64 rfl (by decide) (by decide) (by decide) (by exact Nat.le_of_ble_eq_true rfl) rfl dX7_copied_46 rfl (fun r h2 hq => ?_)
      obtain ⟨rfl, hq⟩ := hq
      obtain rfl := hq.symm
      refine aw_if_eqB (t := 56) (pcn := 52) dX7_copied_49 rfl (by decide) (fun q1 => ?_) (fun q1 => ?_)
      · refine aw_alo 0 (pcn := 57) rfl dX7_copied_56 rfl rfl (rf_some _) ?_
        refine aw_getf (pcn := 60) fl_X7_52 dX7_copied_57 rfl hW.mo rfl ?_
        refine aw_ilo 2 (pcn := 61) rfl dX7_copied_60 rfl rfl ?_
        refine aw_iload (pcn := 63) dX7_copied_61 rfl rfl ?_
        refine aw_iaddN (pcn := 64) dX7_copied_63 rfl ?_
        refine aw_ialdM (j := 19) (pcn := 65) hW dX7_copied_64 rfl (show _ < 2240 by omega) ?_
        refine aw_iastM (j := 19) (pcn := 66) hW dX7_copied_65 rfl (show _ < 2240 by omega) (fun h hW => ?_)
        refine aw_iincN (pcn := 69) dX7_copied_66 rfl (by decide) rfl ?_
        dsimp only [List.set_cons_zero, List.set_cons_succ]
        refine aw_goto (t := 24) dX7_copied_69 (by decide) ?_
        exact ih (k + 1) (by omega) h (by rw [cpT]; first | (rw [if_pos (by assumption)]; exact hW) | (rw [if_neg (by simp_all)]; exact hW))
      · refine aw_iconst (v := nI 0) (pcn := 53) dX7_copied_52 rfl (by decide) ?_
        refine aw_goto (t := 65) dX7_copied_53 (by decide) ?_
        refine aw_iastM (j := 19) (pcn := 66) hW dX7_copied_65 rfl (show _ < 2240 by omega) (fun h hW => ?_)
        refine aw_iincN (pcn := 69) dX7_copied_66 rfl (by decide) rfl ?_
        dsimp only [List.set_cons_zero, List.set_cons_succ]
        refine aw_goto (t := 24) dX7_copied_69 (by decide) ?_
        exact ih (k + 1) (by omega) h (by rw [cpT]; first | (rw [if_pos (by assumption)]; exact hW) | (rw [if_neg (by simp_all)]; exact hW))
  exact H 31 0 (by omega) h hW

theorem hasB_0 {k : Nat} (hk : k < 3) : hasB (nI 0) (nI k) = false := by
  rcases (show k = 0 ∨ k = 1 ∨ k = 2 by omega) with rfl | rfl | rfl <;> decide
set_option maxHeartbeats 8000000 in
set_option maxRecDepth 20000 in
theorem r_dues {X : XG} {l : Launch} {Γ : NM} {ow : Nat → Nat × Nat} {h : Hp} {T Tr : TB} {nh : Nat} (hW : WD Γ ow h T Tr nh) {c b b1 Po : Nat} (hc8 : c < 8) (hb1 : Tr 9 c = nI 2 → Tr 10 c = nI b1) (hb164 : b1 < 64) (hf1 : ∀ k, k < 3 → ∃ P, P < 6 ∧ Tr 19 (35 * b1 + 16 + 5 * k + 1) = nI P) (hb64 : b < 64) (hf : ∀ k, k < 3 → ∃ P, P < 6 ∧ Tr 19 (35 * b + 16 + 5 * k + 1) = nI P) (g10 : du1 Tr c 12 c = nI 0 ∨ du1 Tr c 10 c = nI b) (g19 : ∀ x, du1 Tr c 19 x = Tr 19 x) (hPo : 0 < dl3 (du1 Tr c) c b 13 c → dl3 (du1 Tr c) c b 16 c = nI Po ∧ Po < 6) : AM X l yX7_dues cX7_dues 3 (none) 3 0 0 [.ref (Γ 14 0), .int (nI c)] h (qv fun h' => WD Γ ow h' T (duesT Tr c b) nh) := by
  refine AM.of (by decide +kernel) (by simp [Value.category]) (Nat.le_of_ble_eq_true rfl) ?_
  show AW X l cX7_dues RX7 "dues" (none) 3 3 none _ 0 0 0 [some (.ref (Γ 14 0)), some (.int (nI c)), none] [] h
  have J : ∀ h, WD Γ ow h T (du1 Tr c) nh → AW X l cX7_dues RX7 "dues" (none) 3 3 none (qv fun h' => WD Γ ow h' T (duesT Tr c b) nh) 0 0 34 [some (.ref (Γ 14 0)), some (.int (nI c)), none] [] h := by
    intro h hW
    refine aw_iconst (v := nI 0) (pcn := 35) dX7_dues_34 rfl (by decide) ?_
    refine aw_ist 2 (pcn := 36) rfl dX7_dues_35 rfl (by decide) ?_
    dsimp only [List.set_cons_zero, List.set_cons_succ]
    have body : ∀ (k : Nat), k < 3 → ∀ (T1 : TB) (h : Hp), WD Γ ow h T T1 nh → (T1 12 c = nI 0 ∨ T1 10 c = nI b) → (∀ x, T1 19 x = Tr 19 x) → (∀ h, WD Γ ow h T (dlT T1 c b k) nh → AW X l cX7_dues RX7 "dues" (none) 3 3 none (qv fun h' => WD Γ ow h' T (duesT Tr c b) nh) 0 0 36 [some (.ref (Γ 14 0)), some (.int (nI c)), some (.int (nI (k + 1)))] [] h) → AW X l cX7_dues RX7 "dues" (none) 3 3 none (qv fun h' => WD Γ ow h' T (duesT Tr c b) nh) 0 0 36 [some (.ref (Γ 14 0)), some (.int (nI c)), some (.int (nI (k)))] [] h := by
      intro k hk T1 h hW h10 h19 kk
      refine aw_ilo 2 (pcn := 37) rfl dX7_dues_36 rfl rfl ?_
      refine aw_iconst (v := nI 3) (pcn := 38) dX7_dues_37 rfl (by decide) ?_
      refine aw_icmp_ge (t := 107) (pcn := 41) dX7_dues_38 rfl (by decide) (fun q => absurd q (nI_ge hk (by decide))) (fun _ => ?_)
      refine aw_alo 0 (pcn := 42) rfl dX7_dues_41 rfl rfl (rf_some _) ?_
      refine aw_getf (pcn := 45) fl_X7_34 dX7_dues_42 rfl hW.mo rfl ?_
      refine aw_ilo 1 (pcn := 46) rfl dX7_dues_45 rfl rfl ?_
      refine aw_ialdM (j := 12) (pcn := 47) hW dX7_dues_46 rfl (show _ < 8 by omega) ?_
      refine aw_ilo 2 (pcn := 48) rfl dX7_dues_47 rfl rfl ?_
      refine aw_Si (pcn := 51) (r_has _ _) mf_X7_has mv_X7_has ml_X7_79 rfl (by decide) (by decide) (by decide) (by exact Nat.le_of_ble_eq_true rfl) rfl dX7_dues_48 rfl (fun r h2 hq => ?_)
      obtain ⟨rfl, hq⟩ := hq
      obtain rfl := hq.symm
      refine aw_if_eqB (t := 101) (pcn := 54) dX7_dues_51 rfl (by decide) (fun q1 => ?_) (fun q1 => ?_)
      · refine aw_iincN (pcn := 104) dX7_dues_101 rfl (by decide) rfl ?_
        dsimp only [List.set_cons_zero, List.set_cons_succ]
        refine aw_goto (t := 36) dX7_dues_104 (by decide) ?_
        refine kk h ?_
        first | (rw [dlT, if_pos ⟨by assumption, by assumption⟩, show T1 19 (35 * b + 16 + 5 * k + 1) = nI P0 from (h19 _).trans hP1, show ix (nI P0) = P0 from nI_clamp (by omega)]; exact hW) | (rw [dlT, if_neg (by rintro ⟨_, _⟩; first | contradiction | simp_all)]; exact hW)
      · have hb : T1 10 c = nI b := by
          rcases h10 with h10 | h10
          · rw [h10] at q1; exact absurd q1 (by rw [hasB_0 hk]; decide)
          · exact h10
        obtain ⟨P0, hP, hP1⟩ := hf k hk
        refine aw_alo 0 (pcn := 55) rfl dX7_dues_54 rfl rfl (rf_some _) ?_
        refine aw_getf (pcn := 58) fl_X7_52 dX7_dues_55 rfl hW.mo rfl ?_
        refine aw_alo 0 (pcn := 59) rfl dX7_dues_58 rfl rfl (rf_some _) ?_
        refine aw_getf (pcn := 62) fl_X7_28 dX7_dues_59 rfl hW.mo rfl ?_
        refine aw_ilo 1 (pcn := 63) rfl dX7_dues_62 rfl rfl ?_
        refine aw_ialdM (j := 10) (pcn := 64) hW dX7_dues_63 rfl (show _ < 8 by omega) ?_
        rw [hb]
        refine aw_ilo 2 (pcn := 65) rfl dX7_dues_64 rfl rfl ?_
        refine aw_Si (pcn := 68) (r_lockAt _ _) mf_X7_lockAt mv_X7_lockAt ml_X7_93 rfl (by decide) (by decide) (by decide) (by exact Nat.le_of_ble_eq_true rfl) rfl dX7_dues_65 rfl (fun r h2 hq => ?_)
        obtain ⟨rfl, hq⟩ := hq
        obtain rfl := hq.symm
        refine aw_iconst (v := nI 4) (pcn := 69) dX7_dues_68 rfl (by decide) ?_
        refine aw_iaddN (pcn := 70) dX7_dues_69 rfl ?_
        refine aw_ialdM (j := 19) (pcn := 71) hW dX7_dues_70 rfl (show _ < 2240 by omega) ?_
        refine aw_alo 0 (pcn := 72) rfl dX7_dues_71 rfl rfl (rf_some _) ?_
        refine aw_getf (pcn := 75) fl_X7_103 dX7_dues_72 rfl hW.mo rfl ?_
        refine aw_icmp_ne (t := 101) (pcn := 78) dX7_dues_75 rfl (by decide) (fun q2 => ?_) (fun q2 => ?_)
        · refine aw_iincN (pcn := 104) dX7_dues_101 rfl (by decide) rfl ?_
          dsimp only [List.set_cons_zero, List.set_cons_succ]
          refine aw_goto (t := 36) dX7_dues_104 (by decide) ?_
          refine kk h ?_
          first | (rw [dlT, if_pos ⟨by assumption, by assumption⟩, show T1 19 (35 * b + 16 + 5 * k + 1) = nI P0 from (h19 _).trans hP1, show ix (nI P0) = P0 from nI_clamp (by omega)]; exact hW) | (rw [dlT, if_neg (by rintro ⟨_, _⟩; first | contradiction | simp_all)]; exact hW)
        · refine aw_alo 0 (pcn := 79) rfl dX7_dues_78 rfl rfl (rf_some _) ?_
          refine aw_ilo 1 (pcn := 80) rfl dX7_dues_79 rfl rfl ?_
          refine aw_ilo 2 (pcn := 81) rfl dX7_dues_80 rfl rfl ?_
          refine aw_alo 0 (pcn := 82) rfl dX7_dues_81 rfl rfl (rf_some _) ?_
          refine aw_getf (pcn := 85) fl_X7_52 dX7_dues_82 rfl hW.mo rfl ?_
          refine aw_alo 0 (pcn := 86) rfl dX7_dues_85 rfl rfl (rf_some _) ?_
          refine aw_getf (pcn := 89) fl_X7_28 dX7_dues_86 rfl hW.mo rfl ?_
          refine aw_ilo 1 (pcn := 90) rfl dX7_dues_89 rfl rfl ?_
          refine aw_ialdM (j := 10) (pcn := 91) hW dX7_dues_90 rfl (show _ < 8 by omega) ?_
          rw [hb]
          refine aw_ilo 2 (pcn := 92) rfl dX7_dues_91 rfl rfl ?_
          refine aw_Si (pcn := 95) (r_lockAt _ _) mf_X7_lockAt mv_X7_lockAt ml_X7_93 rfl (by decide) (by decide) (by decide) (by exact Nat.le_of_ble_eq_true rfl) rfl dX7_dues_92 rfl (fun r h2 hq => ?_)
          obtain ⟨rfl, hq⟩ := hq
          obtain rfl := hq.symm
          refine aw_iconst (v := nI 1) (pcn := 96) dX7_dues_95 rfl (by decide) ?_
          refine aw_iaddN (pcn := 97) dX7_dues_96 rfl ?_
          refine aw_ialdM (j := 19) (pcn := 98) hW dX7_dues_97 rfl (show _ < 2240 by omega) ?_
          rw [show T1 19 (35 * b + 16 + 5 * k + 1) = nI P0 from (h19 _).trans hP1]
          refine aw_Vv (pcn := 101) (r_pays hW (c := c) (b := b) (K := k) (P0 := P0) hc8 hb hb64 hk hP) mf_X7_pays mv_X7_pays hW.mo rfl ml_X7_106 rfl (by decide) (by decide) (by decide) (by exact Nat.le_of_ble_eq_true rfl) rfl dX7_dues_98 rfl (fun h hW => ?_)
          refine aw_iincN (pcn := 104) dX7_dues_101 rfl (by decide) rfl ?_
          dsimp only [List.set_cons_zero, List.set_cons_succ]
          refine aw_goto (t := 36) dX7_dues_104 (by decide) ?_
          refine kk h ?_
          first | (rw [dlT, if_pos ⟨by assumption, by assumption⟩, show T1 19 (35 * b + 16 + 5 * k + 1) = nI P0 from (h19 _).trans hP1, show ix (nI P0) = P0 from nI_clamp (by omega)]; exact hW) | (rw [dlT, if_neg (by rintro ⟨_, _⟩; first | contradiction | simp_all)]; exact hW)
    have l10 : ∀ T1 k, ((T1 : TB) 12 c = nI 0 ∨ T1 10 c = nI b) → k < 3 → (dlT T1 c b k 12 c = nI 0 ∨ dlT T1 c b k 10 c = nI b) := fun T1 k q hk => by
      rcases q with q | q
      · left; rw [dlT, if_neg (by rw [q, hasB_0 hk]; simp)]; exact q
      · right; rw [dlT_j _ _ _ _ _ (by decide) (by decide) (by decide)]; exact q
    have l19 : ∀ T1 k, (∀ x, (T1 : TB) 19 x = Tr 19 x) → ∀ x, dlT T1 c b k 19 x = Tr 19 x := fun T1 k q x => by rw [dlT_j _ _ _ _ _ (by decide) (by decide) (by decide)]; exact q x
    refine body 0 (by decide) _ h hW g10 g19 (fun h hW => ?_)
    refine body 1 (by decide) _ h hW (l10 _ 0 g10 (by decide)) (l19 _ 0 g19) (fun h hW => ?_)
    refine body 2 (by decide) _ h hW (l10 _ 1 (l10 _ 0 g10 (by decide)) (by decide)) (l19 _ 1 (l19 _ 0 g19)) (fun h hW => ?_)
    have hW : WD Γ ow h T (dl3 (du1 Tr c) c b) nh := hW
    refine aw_ilo 2 (pcn := 37) rfl dX7_dues_36 rfl rfl ?_
    refine aw_iconst (v := nI 3) (pcn := 38) dX7_dues_37 rfl (by decide) ?_
    refine aw_icmp_ge (t := 107) (pcn := 41) dX7_dues_38 rfl (by decide) (fun q3 => ?_) (fun q3 => absurd (by decide) q3)
    refine aw_alo 0 (pcn := 108) rfl dX7_dues_107 rfl rfl (rf_some _) ?_
    refine aw_getf (pcn := 111) fl_X7_37 dX7_dues_108 rfl hW.mo rfl ?_
    refine aw_ilo 1 (pcn := 112) rfl dX7_dues_111 rfl rfl ?_
    refine aw_ialdM (j := 13) (pcn := 113) hW dX7_dues_112 rfl (show _ < 8 by omega) ?_
    refine aw_if_le (t := 140) (pcn := 116) dX7_dues_113 rfl (by decide) (fun q4 => ?_) (fun q4 => ?_)
    · exact aw_ret dX7_dues_140 rfl ⟨rfl, (by unfold duesT; rw [dgT]; first | (rw [if_pos ⟨Int32.not_le.mp (by assumption), by assumption⟩, hPo1, show ix (nI Po) = Po from nI_clamp (by omega)]; exact hW) | (rw [if_neg (by rintro ⟨_, _⟩; first | contradiction | (exact absurd (by assumption) (Int32.not_lt.mpr (by assumption))))]; exact hW))⟩
    · refine aw_alo 0 (pcn := 117) rfl dX7_dues_116 rfl rfl (rf_some _) ?_
      refine aw_getf (pcn := 120) fl_X7_49 dX7_dues_117 rfl hW.mo rfl ?_
      refine aw_ilo 1 (pcn := 121) rfl dX7_dues_120 rfl rfl ?_
      refine aw_ialdM (j := 17) (pcn := 122) hW dX7_dues_121 rfl (show _ < 8 by omega) ?_
      refine aw_alo 0 (pcn := 123) rfl dX7_dues_122 rfl rfl (rf_some _) ?_
      refine aw_getf (pcn := 126) fl_X7_103 dX7_dues_123 rfl hW.mo rfl ?_
      refine aw_icmp_ne (t := 140) (pcn := 129) dX7_dues_126 rfl (by decide) (fun q5 => ?_) (fun q5 => ?_)
      · exact aw_ret dX7_dues_140 rfl ⟨rfl, (by unfold duesT; rw [dgT]; first | (rw [if_pos ⟨Int32.not_le.mp (by assumption), by assumption⟩, hPo1, show ix (nI Po) = Po from nI_clamp (by omega)]; exact hW) | (rw [if_neg (by rintro ⟨_, _⟩; first | contradiction | (exact absurd (by assumption) (Int32.not_lt.mpr (by assumption))))]; exact hW))⟩
      · obtain ⟨hPo1, hPo2⟩ := hPo (Int32.not_le.mp (by assumption))
        refine aw_alo 0 (pcn := 130) rfl dX7_dues_129 rfl rfl (rf_some _) ?_
        refine aw_ilo 1 (pcn := 131) rfl dX7_dues_130 rfl rfl ?_
        refine aw_alo 0 (pcn := 132) rfl dX7_dues_131 rfl rfl (rf_some _) ?_
        refine aw_getf (pcn := 135) fl_X7_46 dX7_dues_132 rfl hW.mo rfl ?_
        refine aw_ilo 1 (pcn := 136) rfl dX7_dues_135 rfl rfl ?_
        refine aw_ialdM (j := 16) (pcn := 137) hW dX7_dues_136 rfl (show _ < 8 by omega) ?_
        rw [hPo1]
        refine aw_Vv (pcn := 140) (r_wins hW (c := c) (P0 := Po) hc8 hPo2) mf_X7_wins mv_X7_wins hW.mo rfl ml_X7_110 rfl (by decide) (by decide) (by decide) (by exact Nat.le_of_ble_eq_true rfl) rfl dX7_dues_137 rfl (fun h hW => ?_)
        exact aw_ret dX7_dues_140 rfl ⟨rfl, (by unfold duesT; rw [dgT]; first | (rw [if_pos ⟨Int32.not_le.mp (by assumption), by assumption⟩, hPo1, show ix (nI Po) = Po from nI_clamp (by omega)]; exact hW) | (rw [if_neg (by rintro ⟨_, _⟩; first | contradiction | (exact absurd (by assumption) (Int32.not_lt.mpr (by assumption))))]; exact hW))⟩
  refine aw_alo 0 (pcn := 1) rfl dX7_dues_0 rfl rfl (rf_some _) ?_
  refine aw_getf (pcn := 4) fl_X7_25 dX7_dues_1 rfl hW.mo rfl ?_
  refine aw_ilo 1 (pcn := 5) rfl dX7_dues_4 rfl rfl ?_
  refine aw_ialdM (j := 9) (pcn := 6) hW dX7_dues_5 rfl (show _ < 8 by omega) ?_
  refine aw_iconst (v := nI 2) (pcn := 7) dX7_dues_6 rfl (by decide) ?_
  refine aw_icmp_ne (t := 34) (pcn := 10) dX7_dues_7 rfl (by decide) (fun q6 => ?_) (fun q6 => ?_)
  · exact J h (by first | (rw [du1, if_pos ⟨by assumption, by assumption⟩, hb1, show ix (nI b1) = b1 from nI_clamp (by omega)]; exact hW) | (rw [du1, if_neg (by rintro ⟨_, _⟩; contradiction)]; exact hW))
  · refine aw_alo 0 (pcn := 11) rfl dX7_dues_10 rfl rfl (rf_some _) ?_
    refine aw_getf (pcn := 14) fl_X7_31 dX7_dues_11 rfl hW.mo rfl ?_
    refine aw_ilo 1 (pcn := 15) rfl dX7_dues_14 rfl rfl ?_
    refine aw_ialdM (j := 11) (pcn := 16) hW dX7_dues_15 rfl (show _ < 8 by omega) ?_
    refine aw_alo 0 (pcn := 17) rfl dX7_dues_16 rfl rfl (rf_some _) ?_
    refine aw_getf (pcn := 20) fl_X7_103 dX7_dues_17 rfl hW.mo rfl ?_
    refine aw_icmp_ne (t := 34) (pcn := 23) dX7_dues_20 rfl (by decide) (fun q7 => ?_) (fun q7 => ?_)
    · exact J h (by first | (rw [du1, if_pos ⟨by assumption, by assumption⟩, hb1, show ix (nI b1) = b1 from nI_clamp (by omega)]; exact hW) | (rw [du1, if_neg (by rintro ⟨_, _⟩; contradiction)]; exact hW))
    · have hb1 := hb1 (by assumption)
      refine aw_alo 0 (pcn := 24) rfl dX7_dues_23 rfl rfl (rf_some _) ?_
      refine aw_ilo 1 (pcn := 25) rfl dX7_dues_24 rfl rfl ?_
      refine aw_alo 0 (pcn := 26) rfl dX7_dues_25 rfl rfl (rf_some _) ?_
      refine aw_getf (pcn := 29) fl_X7_28 dX7_dues_26 rfl hW.mo rfl ?_
      refine aw_ilo 1 (pcn := 30) rfl dX7_dues_29 rfl rfl ?_
      refine aw_ialdM (j := 10) (pcn := 31) hW dX7_dues_30 rfl (show _ < 8 by omega) ?_
      rw [hb1]
      refine aw_Vv (pcn := 34) (r_end hW (S := b1) (c := c) hb164 hc8 (fun k hk _ => hf1 k hk)) mf_X7_end mv_X7_end hW.mo rfl ml_X7_114 rfl (by decide) (by decide) (by decide) (by exact Nat.le_of_ble_eq_true rfl) rfl dX7_dues_31 rfl (fun h hW => ?_)
      exact J h (by first | (rw [du1, if_pos ⟨by assumption, by assumption⟩, hb1, show ix (nI b1) = b1 from nI_clamp (by omega)]; exact hW) | (rw [du1, if_neg (by rintro ⟨_, _⟩; contradiction)]; exact hW))
