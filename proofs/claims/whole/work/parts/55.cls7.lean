/-! the class: watchers -/
theorem bool_n {b : Bool} (h : (!b) = false) : b = true := by cases b; exact absurd h (by decide); rfl
theorem bool_nt {b : Bool} (h : (!b) = true) : b = false := by cases b; rfl; exact absurd h (by decide)
set_option maxHeartbeats 1600000 in
set_option maxRecDepth 20000 in
theorem c_watchFor {X : XG} {l : Launch} {Γ : NM} {ow : Nat → Nat × Nat} {h : Hp} {T Tr : TB} {nh : Nat} (hW : WD Γ ow h T Tr nh) {i C n Z hN : Nat} (hI : Iv i T C n Z hN) {c : Nat} (hcC : c < C) {P : Nat} (hP : P < 6) : AM X l yX6_watchFor cX6_watchFor 4 (none) 5 1 4 [.ref (Γ 0 0), .int (nI P), .ref (Γ 7 c)] h (qv fun h' => WD Γ ow h' (if hasB (T 6 c) (nI P) = true then watI T c n P else T) Tr nh) := by
  refine AM.of (by decide +kernel) (by simp [Value.category]) (Nat.le_of_ble_eq_true rfl) ?_
  show AW X l cX6_watchFor RX6 "watchFor" (none) 4 5 none _ 1 4 0 [some (.ref (Γ 0 0)), some (.int (nI P)), some (.ref (Γ 7 c)), none] [] h
  have h64 := hI.n64
  have h8 := hI.C8
  have h16 := hI.Z16
  have h4 := hI.h4
  have vc := hI.vc hcC
  obtain ⟨g, hc, hg⟩ := hW.ch vc
  have hc8 : c < 8 := by omega
  refine aw_alo 2 (pcn := 1) rfl dX6_watchFor_0 rfl rfl (rf_some _) ?_
  refine aw_ifnull (t := 12) (pcn := 4) dX6_watchFor_1 rfl (by decide) (rf_some _) (fun q1 => by cases q1) (fun a2 q1 => ?_)
  clear q1 a2
  refine aw_alo 2 (pcn := 5) rfl dX6_watchFor_4 rfl rfl (rf_some _) ?_
  refine aw_ilo 1 (pcn := 6) rfl dX6_watchFor_5 rfl rfl ?_
  refine aw_Vi (pcn := 9) (c_hasM0 hW hI hcC _) mf_X0_hasMember mv_X0_hasMember hc rfl ml_X6_71 rfl (by decide) (by decide) (by decide) (by exact Nat.le_of_ble_eq_true rfl) rfl dX6_watchFor_6 rfl (fun r h2 hq => ?_)
  obtain ⟨rfl, hq⟩ := hq
  obtain rfl := hq.symm
  rw [show mbT T c (nI P) = hasB (T 6 c) (nI P) by unfold mbT; rw [isPT_of hP, Bool.true_and]]
  refine aw_if_neB (t := 13) (pcn := 12) dX6_watchFor_9 rfl (by decide) (fun q3 => ?_) (fun q3 => ?_)
  · refine aw_alo 2 (pcn := 14) rfl dX6_watchFor_13 rfl rfl (rf_some _) ?_
    refine aw_getf (pcn := 17) fl_X6_97 dX6_watchFor_14 rfl hc rfl ?_
    refine aw_iconst (v := nI 3) (pcn := 18) dX6_watchFor_17 rfl (by decide) ?_
    refine aw_icmp_ne (t := 49) (pcn := 21) dX6_watchFor_18 rfl (by decide) (fun q4 => ?_) (fun q4 => ?_)
    · refine aw_alo 2 (pcn := 50) rfl dX6_watchFor_49 rfl rfl (rf_some _) ?_
      refine aw_getf (pcn := 53) fl_X6_86 dX6_watchFor_50 rfl hc rfl ?_
      obtain ⟨h25, s0, hs0n, hnw⟩ := (hI.ch hcC).2.2.2.2.2.2.2.1 q4
      obtain ⟨_, hsc, hcnt⟩ := nwT_ch (by omega) (by omega) hnw
      have h25n : T 25 c = nI s0 := h25.trans hnw
      have hixn : ix (nwT T c n) = s0 := by rw [hnw, ix_nI (by omega)]
      obtain ⟨gs, hs, hgs⟩ := hW.st (hI.vs hs0n) hc8 hsc
      rw [h25n, sref_nI (by omega)]
      refine aw_ast 3 (pcn := 54) rfl dX6_watchFor_53 rfl (by decide) (rf_some _) ?_
      dsimp only [List.set_cons_zero, List.set_cons_succ]
      refine aw_alo 3 (pcn := 55) rfl dX6_watchFor_54 rfl rfl (rf_some _) ?_
      refine aw_ifnull (t := 88) (pcn := 58) dX6_watchFor_55 rfl (by decide) (rf_some _) (fun q5 => by cases q5) (fun a6 q5 => ?_)
      clear q5 a6
      have hp2 : ¬ T 9 c = nI 1 → T 9 c = nI 2 := fun e => ((hI.ch hcC).2.2.1.resolve_left e).resolve_right q4
      have hp1 : ¬ T 9 c = nI 2 → T 9 c = nI 1 := fun e => by
        rcases (hI.ch hcC).2.2.1 with a | a | a
        · exact a
        · exact absurd a e
        · exact absurd a q4
      have e1 := Classical.em (T 9 c = nI 1)
      refine aw_alo 2 (pcn := 59) rfl dX6_watchFor_58 rfl rfl (rf_some _) ?_
      refine aw_alo 3 (pcn := 60) rfl dX6_watchFor_59 rfl rfl (rf_some _) ?_
      refine aw_Vi (pcn := 63) (c_wouldTake hW hI hs0n hcC hsc) mf_X0_wouldTake mv_X0_wouldTake hc rfl ml_X6_205 rfl (by decide) (by decide) (by decide) (by exact Nat.le_of_ble_eq_true rfl) rfl dX6_watchFor_60 rfl (fun r h2 hq => ?_)
      obtain ⟨rfl, hq⟩ := hq
      obtain rfl := hq.symm
      refine aw_if_eqB (t := 88) (pcn := 66) dX6_watchFor_63 rfl (by decide) (fun q7 => ?_) (fun q7 => ?_)
      · rcases e1 with e1 | e1
        · exact absurd q7 (by rw [decide_eq_true e1]; exact Bool.noConfusion)
        · exact aw_ret dX6_watchFor_88 rfl ⟨rfl, (by rw [if_pos q3]; unfold watI watT; rw [hixn, if_neg e1, if_pos (hp2 e1)]; unfold showsT; rw [if_neg e1, if_neg (fun e => by rw [decide_eq_false e1, decide_eq_true (hp2 e1), decide_eq_true e] at q7; cases q7)]; exact hW)⟩
      · have hwt : T 9 c = nI 1 ∨ T 19 (35 * ix (T 10 c) + 1) < T 19 (35 * s0 + 1) := by
          rw [Bool.or_eq_true, Bool.and_eq_true] at q7
          rcases q7 with a | a
          · exact Or.inl (of_decide_eq_true a)
          · exact Or.inr (of_decide_eq_true a.2)
        refine aw_alo 2 (pcn := 67) rfl dX6_watchFor_66 rfl rfl (rf_some _) ?_
        refine aw_getf (pcn := 70) fl_X6_97 dX6_watchFor_67 rfl hc rfl ?_
        refine aw_iconst (v := nI 2) (pcn := 71) dX6_watchFor_70 rfl (by decide) ?_
        refine aw_icmp_eq (t := 83) (pcn := 74) dX6_watchFor_71 rfl (by decide) (fun q8 => ?_) (fun q8 => ?_)
        · refine aw_alo 0 (pcn := 84) rfl dX6_watchFor_83 rfl rfl (rf_some _) ?_
          refine aw_alo 3 (pcn := 85) rfl dX6_watchFor_84 rfl rfl (rf_some _) ?_
          refine aw_Vv (pcn := 88) (c_makeShown hW (S := s0) (c := c) (by omega) (hI.vs hs0n) hc8 vc hsc hwt) mf_X6_makeShown mv_X6_makeShown hW.sc rfl ml_X6_209 rfl (by decide) (by decide) (by decide) (by exact Nat.le_of_ble_eq_true rfl) rfl dX6_watchFor_85 rfl (fun h hW => ?_)
          exact aw_ret dX6_watchFor_88 rfl ⟨rfl, (by rw [if_pos q3]; unfold watI watT; rw [hixn]; rw [if_neg (ph21 q8), if_pos q8]; exact hW)⟩
        · refine aw_alo 0 (pcn := 75) rfl dX6_watchFor_74 rfl rfl (rf_some _) ?_
          refine aw_alo 3 (pcn := 76) rfl dX6_watchFor_75 rfl rfl (rf_some _) ?_
          refine aw_ilo 1 (pcn := 77) rfl dX6_watchFor_76 rfl rfl ?_
          refine aw_Vi (pcn := 80) (c_urgent hW hI hs0n hcC hsc hP) mf_X6_hasUrgentLock mv_X6_hasUrgentLock hW.sc rfl ml_X6_325 rfl (by decide) (by decide) (by decide) (by exact Nat.le_of_ble_eq_true rfl) rfl dX6_watchFor_77 rfl (fun r h2 hq => ?_)
          obtain ⟨rfl, hq⟩ := hq
          obtain rfl := hq.symm
          refine aw_if_eqB (t := 88) (pcn := 83) dX6_watchFor_80 rfl (by decide) (fun q9 => ?_) (fun q9 => ?_)
          · exact aw_ret dX6_watchFor_88 rfl ⟨rfl, (by rw [if_pos q3]; unfold watI watT; rw [hixn]; rw [if_pos (hp1 q8)]; first | (rw [if_pos (of_decide_eq_true (bool_n q9))]; exact hW) | (rw [if_neg (of_decide_eq_false (bool_nt q9))]; exact hW))⟩
          · refine aw_alo 0 (pcn := 84) rfl dX6_watchFor_83 rfl rfl (rf_some _) ?_
            refine aw_alo 3 (pcn := 85) rfl dX6_watchFor_84 rfl rfl (rf_some _) ?_
            refine aw_Vv (pcn := 88) (c_makeShown hW (S := s0) (c := c) (by omega) (hI.vs hs0n) hc8 vc hsc hwt) mf_X6_makeShown mv_X6_makeShown hW.sc rfl ml_X6_209 rfl (by decide) (by decide) (by decide) (by exact Nat.le_of_ble_eq_true rfl) rfl dX6_watchFor_85 rfl (fun h hW => ?_)
            exact aw_ret dX6_watchFor_88 rfl ⟨rfl, (by rw [if_pos q3]; unfold watI watT; rw [hixn]; rw [if_pos (hp1 q8)]; first | (rw [if_pos (of_decide_eq_true (bool_n q9))]; exact hW) | (rw [if_neg (of_decide_eq_false (bool_nt q9))]; exact hW))⟩
    · refine aw_iconst (v := nI 0) (pcn := 22) dX6_watchFor_21 rfl (by decide) ?_
      refine aw_ist 3 (pcn := 23) rfl dX6_watchFor_22 rfl (by decide) ?_
      dsimp only [List.set_cons_zero, List.set_cons_succ]
      have body : ∀ (k : Nat), k < 3 → ∀ (A : TB) (h : Hp), Iv i A C n Z hN → A 10 c = T 10 c → WD Γ ow h A Tr nh → (∀ h, WD Γ ow h (cwT A c (ix (T 10 c)) P k) Tr nh → AW X l cX6_watchFor RX6 "watchFor" (none) 4 5 none (qv fun h' => WD Γ ow h' (if hasB (T 6 c) (nI P) = true then watI T c n P else T) Tr nh) 1 4 23 [some (.ref (Γ 0 0)), some (.int (nI P)), some (.ref (Γ 7 c)), some (.int (nI (k + 1)))] [] h) → AW X l cX6_watchFor RX6 "watchFor" (none) 4 5 none (qv fun h' => WD Γ ow h' (if hasB (T 6 c) (nI P) = true then watI T c n P else T) Tr nh) 1 4 23 [some (.ref (Γ 0 0)), some (.int (nI P)), some (.ref (Γ 7 c)), some (.int (nI (k)))] [] h := by
        intro k hk3 A h hJ h10 hW kk
        rw [← h10] at kk
        have vc := hJ.vc hcC
        obtain ⟨g, hc, hg⟩ := hW.ch (c := c) vc
        refine aw_ilo 3 (pcn := 24) rfl dX6_watchFor_23 rfl rfl ?_
        refine aw_iconst (v := nI 3) (pcn := 25) dX6_watchFor_24 rfl (by decide) ?_
        refine aw_icmp_ge (t := 42) (pcn := 28) dX6_watchFor_25 rfl (by decide) (fun q => absurd q (nI_ge hk3 (by decide))) (fun _ => ?_)
        refine aw_alo 0 (pcn := 29) rfl dX6_watchFor_28 rfl rfl (rf_some _) ?_
        refine aw_alo 2 (pcn := 30) rfl dX6_watchFor_29 rfl rfl (rf_some _) ?_
        refine aw_ilo 3 (pcn := 31) rfl dX6_watchFor_30 rfl rfl ?_
        refine aw_ilo 1 (pcn := 32) rfl dX6_watchFor_31 rfl rfl ?_
        refine aw_Vi (pcn := 35) (c_claimHeld hW hJ hcC hk3 hP) mf_X6_claimHeld mv_X6_claimHeld hW.sc rfl ml_X6_280 rfl (by decide) (by decide) (by decide) (by exact Nat.le_of_ble_eq_true rfl) rfl dX6_watchFor_32 rfl (fun r h hq => ?_)
        obtain ⟨_, hW⟩ := hq
        refine aw_pop (pcn := 36) dX6_watchFor_35 rfl rfl ?_
        refine aw_iincN (pcn := 39) dX6_watchFor_36 rfl (by decide) rfl ?_
        dsimp only [List.set_cons_zero, List.set_cons_succ]
        refine aw_goto (t := 23) dX6_watchFor_39 (by decide) ?_
        exact kk h hW
      have lj : ∀ (A : TB) k, cwT A c (ix (T 10 c)) P k 10 c = A 10 c := fun A k => cwT_j _ _ _ _ _ _ (by decide) (by decide) (by decide) (by decide)
      refine body 0 (by decide) _ h hI rfl hW (fun h hW => ?_)
      refine body 1 (by decide) _ h (hI.cw hcC (by decide)) (lj _ _) hW (fun h hW => ?_)
      refine body 2 (by decide) _ h ((hI.cw hcC (by decide)).cw hcC (by decide)) ((lj _ _).trans (lj _ _)) hW (fun h hW => ?_)
      have HD := ((hI.cw (b := ix (T 10 c)) (p := P) hcC (show 0 < 3 by decide)).cw (b := ix (T 10 c)) (p := P) hcC (show 1 < 3 by decide)).cw (b := ix (T 10 c)) (p := P) hcC (show 2 < 3 by decide)
      have hwt : watI T c n P = plyT (cw3 T c (ix (T 10 c)) P) c P := by unfold watI watT; rw [if_neg (by rw [q4]; decide), if_neg (by rw [q4]; decide)]
      have hW : WD Γ ow h (cw3 T c (ix (T 10 c)) P) Tr nh := hW
      have HD : Iv i (cw3 T c (ix (T 10 c)) P) C n Z hN := HD
      generalize cw3 T c (ix (T 10 c)) P = D at hW HD hwt
      have vc := HD.vc hcC
      obtain ⟨g, hc, hg⟩ := hW.ch (c := c) vc
      refine aw_ilo 3 (pcn := 24) rfl dX6_watchFor_23 rfl rfl ?_
      refine aw_iconst (v := nI 3) (pcn := 25) dX6_watchFor_24 rfl (by decide) ?_
      refine aw_icmp_ge (t := 42) (pcn := 28) dX6_watchFor_25 rfl (by decide) (fun q10 => ?_) (fun q10 => absurd (by decide) q10)
      refine aw_alo 0 (pcn := 43) rfl dX6_watchFor_42 rfl rfl (rf_some _) ?_
      refine aw_ilo 1 (pcn := 44) rfl dX6_watchFor_43 rfl rfl ?_
      refine aw_alo 2 (pcn := 45) rfl dX6_watchFor_44 rfl rfl (rf_some _) ?_
      refine aw_Vv (pcn := 48) (c_playFor hW HD hcC hP) mf_X6_playFor mv_X6_playFor hW.sc rfl ml_X6_322 rfl (by decide) (by decide) (by decide) (by exact Nat.le_of_ble_eq_true rfl) rfl dX6_watchFor_45 rfl (fun h hW => ?_)
      exact aw_ret dX6_watchFor_48 rfl ⟨rfl, (by rw [if_pos q3, hwt]; exact hW)⟩
  · exact aw_ret dX6_watchFor_12 rfl ⟨rfl, (by rw [q3]; exact hW)⟩

set_option maxHeartbeats 1600000 in
set_option maxRecDepth 20000 in
theorem c_oneMore {X : XG} {l : Launch} {Γ : NM} {ow : Nat → Nat × Nat} {h : Hp} {T Tr : TB} {nh : Nat} (hW : WD Γ ow h T Tr nh) {i C n Z hN : Nat} (h64 : n ≤ 64) (h8 : C ≤ 8) (ho : OmOK i T C n Z hN) : AM X l yX6_oneHeightMore cX6_oneHeightMore 3 (none) 6 48 192 [.ref (Γ 0 0)] h (qv fun h' => WD Γ ow h' (omT T C n) Tr nh) := by
  refine AM.of (by decide +kernel) (by simp [Value.category]) (Nat.le_of_ble_eq_true rfl) ?_
  show AW X l cX6_oneHeightMore RX6 "oneHeightMore" (none) 3 6 none _ 48 192 0 [some (.ref (Γ 0 0)), none, none] [] h
  refine aw_alo 0 (pcn := 1) rfl dX6_oneHeightMore_0 rfl rfl (rf_some _) ?_
  refine aw_dup (pcn := 2) dX6_oneHeightMore_1 rfl rfl ?_
  refine aw_getf (pcn := 5) fl_X6_224 dX6_oneHeightMore_2 rfl hW.sc rfl ?_
  refine aw_iconst (v := nI 1) (pcn := 6) dX6_oneHeightMore_5 rfl (by decide) ?_
  refine aw_iadd (pcn := 7) dX6_oneHeightMore_6 rfl ?_
  refine aw_putO (pcn := 10) (j' := 2) hW fp_X6_224 (by decide) (by decide) (os_9 _ _ _) dX6_oneHeightMore_7 rfl (fun h hW hk => ?_)
  refine aw_iconst (v := nI 0) (pcn := 11) dX6_oneHeightMore_10 rfl (by decide) ?_
  refine aw_ist 1 (pcn := 12) rfl dX6_oneHeightMore_11 rfl (by decide) ?_
  dsimp only [List.set_cons_zero, List.set_cons_succ]
  have H : ∀ (m k : Nat), k + m = C → ∀ h, WD Γ ow h (duA (up T 2 0 (T 2 0 + nI 1)) k) Tr nh → AW X l cX6_oneHeightMore RX6 "oneHeightMore" (none) 3 6 none (qv fun h' => WD Γ ow h' (omT T C n) Tr nh) 48 192 12 [some (.ref (Γ 0 0)), some (.int (nI k)), none] [] h := by
    intro m
    induction m with
    | zero  =>
      intro k hk h hW
      obtain rfl : C = k := by omega
      have hJ := ho.1 C (by omega)
      refine aw_ilo 1 (pcn := 13) rfl dX6_oneHeightMore_12 rfl rfl ?_
      refine aw_alo 0 (pcn := 14) rfl dX6_oneHeightMore_13 rfl rfl (rf_some _) ?_
      refine aw_getf (pcn := 17) fl_X6_52 dX6_oneHeightMore_14 rfl hW.sc rfl ?_
      rw [hJ.c5]
      refine aw_icmp_ge (t := 35) (pcn := 20) dX6_oneHeightMore_17 rfl (by decide) (fun _ => ?_) (fun q => absurd (Int32.le_refl _) q)
      refine aw_iconst (v := nI 0) (pcn := 36) dX6_oneHeightMore_35 rfl (by decide) ?_
      refine aw_ist 1 (pcn := 37) rfl dX6_oneHeightMore_36 rfl (by decide) ?_
      dsimp only [List.set_cons_zero, List.set_cons_succ]
      have body : ∀ (p : Nat), p < 6 → ∀ (h : Hp), WD Γ ow h (waN (duA (up T 2 0 (T 2 0 + nI 1)) C) C n p) Tr nh → (∀ h, WD Γ ow h (waN (duA (up T 2 0 (T 2 0 + nI 1)) C) C n (p + 1)) Tr nh → AW X l cX6_oneHeightMore RX6 "oneHeightMore" (none) 3 6 none (qv fun h' => WD Γ ow h' (omT T C n) Tr nh) (48 - 8 * (p + 1)) (4 * (48 - 8 * (p + 1))) 37 [some (.ref (Γ 0 0)), some (.int (nI (p + 1))), none] [] h) → AW X l cX6_oneHeightMore RX6 "oneHeightMore" (none) 3 6 none (qv fun h' => WD Γ ow h' (omT T C n) Tr nh) (48 - 8 * p) (4 * (48 - 8 * p)) 37 [some (.ref (Γ 0 0)), some (.int (nI (p))), none] [] h := by
        intro p hp h hW kk
        refine aw_ilo 1 (pcn := 38) rfl dX6_oneHeightMore_37 rfl rfl ?_
        refine aw_bipush (v := nI 6) (pcn := 40) dX6_oneHeightMore_38 rfl (by decide) ?_
        refine aw_icmp_ge (t := 86) (pcn := 43) dX6_oneHeightMore_40 rfl (by decide) (fun q => absurd q (nI_ge hp (by decide))) (fun _ => ?_)
        have out : ∀ h x, WD Γ ow h (waN (duA (up T 2 0 (T 2 0 + nI 1)) C) C n (p + 1)) Tr nh → AW X l cX6_oneHeightMore RX6 "oneHeightMore" (none) 3 6 none (qv fun h' => WD Γ ow h' (omT T C n) Tr nh) (48 - 8 * (p + 1)) (4 * (48 - 8 * (p + 1))) 80 [some (.ref (Γ 0 0)), some (.int (nI p)), x] [] h := by
          intro h x hW
          refine aw_iincN (pcn := 83) dX6_oneHeightMore_80 rfl (by decide) rfl ?_
          dsimp only [List.set_cons_zero, List.set_cons_succ]
          refine aw_goto (t := 37) dX6_oneHeightMore_83 (by decide) ?_
          refine AW.forget 2 ?_
          dsimp only [List.set_cons_zero, List.set_cons_succ]
          exact kk h hW
        have hJ0 := ho.2 p 0 hp (by omega)
        have hW : WD Γ ow h (waA (waN (duA (up T 2 0 (T 2 0 + nI 1)) C) C n p) n p 0) Tr nh := hW
        refine aw_alo 0 (pcn := 44) rfl dX6_oneHeightMore_43 rfl rfl (rf_some _) ?_
        refine aw_getf (pcn := 47) fl_X6_305 dX6_oneHeightMore_44 rfl hW.sc rfl ?_
        refine aw_ilo 1 (pcn := 48) rfl dX6_oneHeightMore_47 rfl rfl ?_
        refine aw_Si (pcn := 51) (c_isIn _ _) mf_X6_isIn mv_X6_isIn ml_X6_107 rfl (by decide) (by omega) (by omega) (by exact Nat.le_of_ble_eq_true rfl) rfl dX6_oneHeightMore_48 rfl (fun r h2 hq => ?_)
        obtain ⟨rfl, hq⟩ := hq
        obtain rfl := hq.symm
        rw [inB_has hJ0.w1 hp, show waA (waN (duA (up T 2 0 (T 2 0 + nI 1)) C) C n p) n p 0 1 0 = (waN (duA (up T 2 0 (T 2 0 + nI 1)) C) C n p) 1 0 from rfl]
        refine aw_if_eqB (t := 80) (pcn := 54) dX6_oneHeightMore_51 rfl (by decide) (fun q1 => ?_) (fun q1 => ?_)
        · refine AW.le (k' := 48 - 8 * (p + 1)) (n' := 4 * (48 - 8 * (p + 1))) (by omega) (by omega) ?_
          refine out h _ ?_
          show WD Γ ow h (waP (waN (duA (up T 2 0 (T 2 0 + nI 1)) C) C n p) C n p) Tr nh
          unfold waP
          rw [if_neg (by rw [q1]; decide)]
          exact hW
        · refine aw_iconst (v := nI 0) (pcn := 55) dX6_oneHeightMore_54 rfl (by decide) ?_
          refine aw_ist 2 (pcn := 56) rfl dX6_oneHeightMore_55 rfl (by decide) ?_
          dsimp only [List.set_cons_zero, List.set_cons_succ]
          have H : ∀ (m k : Nat), k + m = C → ∀ h, WD Γ ow h (waA (waN (duA (up T 2 0 (T 2 0 + nI 1)) C) C n p) n p k) Tr nh → AW X l cX6_oneHeightMore RX6 "oneHeightMore" (none) 3 6 none (qv fun h' => WD Γ ow h' (omT T C n) Tr nh) (48 - 8 * (p + 1) + m) (4 * (48 - 8 * (p + 1) + m)) 56 [some (.ref (Γ 0 0)), some (.int (nI p)), some (.int (nI k))] [] h := by
            intro m
            induction m with
            | zero  =>
              intro k hk h hW
              obtain rfl : C = k := by omega
              have hJ := ho.2 p C hp (by omega)
              refine aw_ilo 2 (pcn := 57) rfl dX6_oneHeightMore_56 rfl rfl ?_
              refine aw_alo 0 (pcn := 58) rfl dX6_oneHeightMore_57 rfl rfl (rf_some _) ?_
              refine aw_getf (pcn := 61) fl_X6_52 dX6_oneHeightMore_58 rfl hW.sc rfl ?_
              rw [hJ.c5]
              refine aw_icmp_ge (t := 80) (pcn := 64) dX6_oneHeightMore_61 rfl (by decide) (fun _ => ?_) (fun q => absurd (Int32.le_refl _) q)
              refine out h _ ?_
              show WD Γ ow h (waP (waN (duA (up T 2 0 (T 2 0 + nI 1)) C) C n p) C n p) Tr nh
              unfold waP
              rw [if_pos q1]
              exact hW
            | succ m ih =>
              intro k hk h hW
              have hJ := ho.2 p k hp (by omega)
              refine aw_ilo 2 (pcn := 57) rfl dX6_oneHeightMore_56 rfl rfl ?_
              refine aw_alo 0 (pcn := 58) rfl dX6_oneHeightMore_57 rfl rfl (rf_some _) ?_
              refine aw_getf (pcn := 61) fl_X6_52 dX6_oneHeightMore_58 rfl hW.sc rfl ?_
              rw [hJ.c5]
              refine aw_icmp_ge (t := 80) (pcn := 64) dX6_oneHeightMore_61 rfl (by decide) (fun q => absurd q (nI_ge (by omega) (by omega))) (fun _ => ?_)
              refine aw_alo 0 (pcn := 65) rfl dX6_oneHeightMore_64 rfl rfl (rf_some _) ?_
              refine aw_ilo 1 (pcn := 66) rfl dX6_oneHeightMore_65 rfl rfl ?_
              refine aw_alo 0 (pcn := 67) rfl dX6_oneHeightMore_66 rfl rfl (rf_some _) ?_
              refine aw_ilo 2 (pcn := 68) rfl dX6_oneHeightMore_67 rfl rfl ?_
              refine aw_Vr (pcn := 71) (c_channelAtN hW hJ (k := k) (by omega)) mf_X6_channelAt mv_X6_channelAt hW.sc rfl ml_X6_93 rfl (by decide) (by omega) (by omega) (by exact Nat.le_of_ble_eq_true rfl) rfl dX6_oneHeightMore_68 rfl (fun r h2 hq => ?_)
              obtain ⟨rfl, hq⟩ := hq
              obtain rfl := hq.symm
              refine aw_Vv (pcn := 74) (c_watchFor hW (c := k) (P := p) hJ (by omega) hp) mf_X6_watchFor mv_X6_watchFor hW.sc rfl ml_X6_315 rfl (by decide) (by omega) (by omega) (by exact Nat.le_of_ble_eq_true rfl) rfl dX6_oneHeightMore_71 rfl (fun h hW => ?_)
              refine aw_iincN (pcn := 77) dX6_oneHeightMore_74 rfl (by decide) rfl ?_
              dsimp only [List.set_cons_zero, List.set_cons_succ]
              refine aw_goto (t := 56) dX6_oneHeightMore_77 (by decide) ?_
              refine AW.le (k' := 48 - 8 * (p + 1) + m) (n' := 4 * (48 - 8 * (p + 1) + m)) (by omega) (by omega) ?_
              exact ih (k + 1) (by omega) h hW
          refine AW.le (k' := 48 - 8 * (p + 1) + C) (n' := 4 * (48 - 8 * (p + 1) + C)) (by omega) (by omega) ?_
          exact H C 0 (by omega) h hW
      refine body 0 (by decide) h hW (fun h hW => ?_)
      refine body 1 (by decide) h hW (fun h hW => ?_)
      refine body 2 (by decide) h hW (fun h hW => ?_)
      refine body 3 (by decide) h hW (fun h hW => ?_)
      refine body 4 (by decide) h hW (fun h hW => ?_)
      refine body 5 (by decide) h hW (fun h hW => ?_)
      refine aw_ilo 1 (pcn := 38) rfl dX6_oneHeightMore_37 rfl rfl ?_
      refine aw_bipush (v := nI 6) (pcn := 40) dX6_oneHeightMore_38 rfl (by decide) ?_
      refine aw_icmp_ge (t := 86) (pcn := 43) dX6_oneHeightMore_40 rfl (by decide) (fun q2 => ?_) (fun q2 => absurd (by decide) q2)
      exact aw_ret dX6_oneHeightMore_86 rfl ⟨rfl, hW⟩
    | succ m ih =>
      intro k hk h hW
      have hJ := ho.1 k (by omega)
      refine aw_ilo 1 (pcn := 13) rfl dX6_oneHeightMore_12 rfl rfl ?_
      refine aw_alo 0 (pcn := 14) rfl dX6_oneHeightMore_13 rfl rfl (rf_some _) ?_
      refine aw_getf (pcn := 17) fl_X6_52 dX6_oneHeightMore_14 rfl hW.sc rfl ?_
      rw [hJ.c5]
      refine aw_icmp_ge (t := 35) (pcn := 20) dX6_oneHeightMore_17 rfl (by decide) (fun q => absurd q (nI_ge (by omega) (by omega))) (fun _ => ?_)
      refine aw_alo 0 (pcn := 21) rfl dX6_oneHeightMore_20 rfl rfl (rf_some _) ?_
      refine aw_alo 0 (pcn := 22) rfl dX6_oneHeightMore_21 rfl rfl (rf_some _) ?_
      refine aw_ilo 1 (pcn := 23) rfl dX6_oneHeightMore_22 rfl rfl ?_
      refine aw_Vr (pcn := 26) (c_channelAtN hW hJ (k := k) (by omega)) mf_X6_channelAt mv_X6_channelAt hW.sc rfl ml_X6_93 rfl (by decide) (by omega) (by omega) (by exact Nat.le_of_ble_eq_true rfl) rfl dX6_oneHeightMore_23 rfl (fun r h2 hq => ?_)
      obtain ⟨rfl, hq⟩ := hq
      obtain rfl := hq.symm
      refine aw_Vv (pcn := 29) (c_meetHeight hW (c := k) hJ (by omega)) mf_X6_meetHeight mv_X6_meetHeight hW.sc rfl ml_X6_311 rfl (by decide) (by omega) (by omega) (by exact Nat.le_of_ble_eq_true rfl) rfl dX6_oneHeightMore_26 rfl (fun h hW => ?_)
      refine aw_iincN (pcn := 32) dX6_oneHeightMore_29 rfl (by decide) rfl ?_
      dsimp only [List.set_cons_zero, List.set_cons_succ]
      refine aw_goto (t := 12) dX6_oneHeightMore_32 (by decide) ?_
      exact ih (k + 1) (by omega) h hW
  exact H C 0 (by omega) h hW
