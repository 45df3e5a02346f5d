/-! the class: one height more -/
theorem pos_of {x : Int32} (h0 : 0 ≤ x) (h : ¬ x = 0) : 0 < x := by
  rcases Int32.lt_or_le 0 x with e | e
  · exact e
  · exact absurd (Int32.le_antisymm e h0) h
set_option maxHeartbeats 1600000 in
set_option maxRecDepth 20000 in
theorem c_channelAtN {X : XG} {l : Launch} {Γ : NM} {ow : Nat → Nat × Nat} {h : Hp} {T Tr : TB} {nh : Nat} (hW : WD Γ ow h T Tr nh) {i C n Z hN : Nat} (hI : Iv i T C n Z hN) {k : Nat} (hk : k < C) : AM X l yX6_channelAt cX6_channelAt 2 (some (.object "StateChannels$Channel")) 0 0 0 [.ref (Γ 0 0), .int (nI k)] h (qr fun r h' => r = some (Γ 7 k) ∧ h' = h) := by
  refine AM.of (by decide +kernel) (by simp [Value.category]) (Nat.le_of_ble_eq_true rfl) ?_
  show AW X l cX6_channelAt RX6 "channelAt" (some (.object "StateChannels$Channel")) 2 0 none _ 0 0 0 [some (.ref (Γ 0 0)), some (.int (nI k))] [] h
  have h64 := hI.n64
  have h8 := hI.C8
  have h16 := hI.Z16
  have h4 := hI.h4
  refine aw_ilo 1 (pcn := 1) rfl dX6_channelAt_0 rfl rfl ?_
  refine aw_if_lt (t := 30) (pcn := 4) dX6_channelAt_1 rfl (by decide) (fun q => absurd q (nI_pos (by omega))) (fun _ => ?_)
  refine aw_ilo 1 (pcn := 5) rfl dX6_channelAt_4 rfl rfl ?_
  refine aw_alo 0 (pcn := 6) rfl dX6_channelAt_5 rfl rfl (rf_some _) ?_
  refine aw_getf (pcn := 9) fl_X6_52 dX6_channelAt_6 rfl hW.sc rfl ?_
  rw [hI.c5]
  refine aw_icmp_ge (t := 30) (pcn := 12) dX6_channelAt_9 rfl (by decide) (fun q => absurd q (nI_ge hk (by omega))) (fun _ => ?_)
  refine aw_ilo 1 (pcn := 13) rfl dX6_channelAt_12 rfl rfl ?_
  refine aw_alo 0 (pcn := 14) rfl dX6_channelAt_13 rfl rfl (rf_some _) ?_
  refine aw_getf (pcn := 17) fl_X6_18 dX6_channelAt_14 rfl hW.sc rfl ?_
  refine aw_alenr (v := nI 8) (pcn := 18) dX6_channelAt_17 rfl hW.chs (by decide) (by decide) ?_
  refine aw_icmp_ge (t := 30) (pcn := 21) dX6_channelAt_18 rfl (by decide) (fun q => absurd q (nI_ge (by omega) (by decide))) (fun _ => ?_)
  refine aw_alo 0 (pcn := 22) rfl dX6_channelAt_21 rfl rfl (rf_some _) ?_
  refine aw_getf (pcn := 25) fl_X6_18 dX6_channelAt_22 rfl hW.sc rfl ?_
  refine aw_ilo 1 (pcn := 26) rfl dX6_channelAt_25 rfl rfl ?_
  refine aw_aaldN (pcn := 27) (by decide) dX6_channelAt_26 rfl hW.chs (by decide) (show _ < 8 by omega) ?_
  refine aw_goto (t := 31) dX6_channelAt_27 (by decide) ?_
  exact aw_aret dX6_channelAt_31 rfl (Or.inl ⟨_, rfl⟩) rfl ⟨_, rfl, if_pos (hI.vc hk), rfl⟩

set_option maxHeartbeats 1600000 in
set_option maxRecDepth 20000 in
theorem c_meetHeight {X : XG} {l : Launch} {Γ : NM} {ow : Nat → Nat × Nat} {h : Hp} {T Tr : TB} {nh : Nat} (hW : WD Γ ow h T Tr nh) {i C n Z hN : Nat} (hI : Iv i T C n Z hN) {c : Nat} (hcC : c < C) : AM X l yX6_meetHeight cX6_meetHeight 4 (none) 4 0 0 [.ref (Γ 0 0), .ref (Γ 7 c)] h (qv fun h' => WD Γ ow h' (duesI T c) Tr nh) := by
  refine AM.of (by decide +kernel) (by simp [Value.category]) (Nat.le_of_ble_eq_true rfl) ?_
  show AW X l cX6_meetHeight RX6 "meetHeight" (none) 4 4 none _ 0 0 0 [some (.ref (Γ 0 0)), some (.ref (Γ 7 c)), none, none] [] h
  have h64 := hI.n64
  have h8 := hI.C8
  have h16 := hI.Z16
  have h4 := hI.h4
  have vc := hI.vc hcC
  obtain ⟨g, hc, hg⟩ := hW.ch vc
  have hc8 : c < 8 := by omega
  have J : ∀ h, WD Γ ow h (du1 T c) Tr nh → AW X l cX6_meetHeight RX6 "meetHeight" (none) 4 4 none (qv fun h' => WD Γ ow h' (duesI T c) Tr nh) 0 0 39 [some (.ref (Γ 0 0)), some (.ref (Γ 7 c)), none, none] [] h := by
    intro h hW
    refine aw_iconst (v := nI 0) (pcn := 40) dX6_meetHeight_39 rfl (by decide) ?_
    refine aw_ist 2 (pcn := 41) rfl dX6_meetHeight_40 rfl (by decide) ?_
    dsimp only [List.set_cons_zero, List.set_cons_succ]
    have body : ∀ (k : Nat), k < 3 → ∀ (A : TB) (h : Hp), Iv i A C n Z hN → A 10 c = du1 T c 10 c → WD Γ ow h A Tr nh → (∀ h, WD Γ ow h (dlT A c (ix (du1 T c 10 c)) k) Tr nh → AW X l cX6_meetHeight RX6 "meetHeight" (none) 4 4 none (qv fun h' => WD Γ ow h' (duesI T c) Tr nh) 0 0 41 [some (.ref (Γ 0 0)), some (.ref (Γ 7 c)), some (.int (nI (k + 1))), none] [] h) → AW X l cX6_meetHeight RX6 "meetHeight" (none) 4 4 none (qv fun h' => WD Γ ow h' (duesI T c) Tr nh) 0 0 41 [some (.ref (Γ 0 0)), some (.ref (Γ 7 c)), some (.int (nI (k))), none] [] h := by
      intro k hk3 A h hJ h10 hW kk
      rw [← h10] at kk
      have vc := hJ.vc hcC
      obtain ⟨g, hc, hg⟩ := hW.ch (c := c) vc
      refine aw_ilo 2 (pcn := 42) rfl dX6_meetHeight_41 rfl rfl ?_
      refine aw_iconst (v := nI 3) (pcn := 43) dX6_meetHeight_42 rfl (by decide) ?_
      refine aw_icmp_ge (t := 87) (pcn := 46) dX6_meetHeight_43 rfl (by decide) (fun q => absurd q (nI_ge hk3 (by decide))) (fun _ => ?_)
      refine aw_alo 1 (pcn := 47) rfl dX6_meetHeight_46 rfl rfl (rf_some _) ?_
      refine aw_ilo 2 (pcn := 48) rfl dX6_meetHeight_47 rfl rfl ?_
      refine aw_Vr (pcn := 51) (c_heldLockAt hW hJ hcC hk3) mf_X0_heldLockAt mv_X0_heldLockAt hc rfl ml_X6_291 rfl (by decide) (by decide) (by decide) (by exact Nat.le_of_ble_eq_true rfl) rfl dX6_meetHeight_48 rfl (fun r h2 hq => ?_)
      obtain ⟨hq, hh⟩ := hq
      obtain rfl := hh.symm
      rcases hq with ⟨hb0, rfl⟩ | ⟨hb0, a, rfl, hlo⟩
      · refine aw_ast 3 (pcn := 52) rfl dX6_meetHeight_51 rfl (by decide) (rf_none) ?_
        dsimp only [List.set_cons_zero, List.set_cons_succ]
        refine aw_alo 3 (pcn := 53) rfl dX6_meetHeight_52 rfl rfl (rf_none) ?_
        refine aw_ifnull (t := 81) (pcn := 56) dX6_meetHeight_53 rfl (by decide) (rf_none) (fun q1 => ?_) (fun a2 q1 => by cases q1)
        clear q1
        refine aw_iincN (pcn := 84) dX6_meetHeight_81 rfl (by decide) rfl ?_
        dsimp only [List.set_cons_zero, List.set_cons_succ]
        refine aw_goto (t := 41) dX6_meetHeight_84 (by decide) ?_
        refine AW.forget 3 ?_
        dsimp only [List.set_cons_zero, List.set_cons_succ]
        refine kk h ?_
        rw [dlT, if_neg (fun e => by rw [hb0] at e; exact absurd e.1 (by decide))]; exact hW
      · obtain ⟨_, _, P, hP, hP1⟩ := hJ.heldZ hcC hk3 hb0
        refine aw_ast 3 (pcn := 52) rfl dX6_meetHeight_51 rfl (by decide) (rf_some _) ?_
        dsimp only [List.set_cons_zero, List.set_cons_succ]
        refine aw_alo 3 (pcn := 53) rfl dX6_meetHeight_52 rfl rfl (rf_some _) ?_
        refine aw_ifnull (t := 81) (pcn := 56) dX6_meetHeight_53 rfl (by decide) (rf_some _) (fun q3 => by cases q3) (fun a4 q3 => ?_)
        clear q3 a4
        refine aw_alo 3 (pcn := 57) rfl dX6_meetHeight_56 rfl rfl (rf_some _) ?_
        refine aw_getf (pcn := 60) fl_X6_256 dX6_meetHeight_57 rfl hlo rfl ?_
        refine aw_alo 0 (pcn := 61) rfl dX6_meetHeight_60 rfl rfl (rf_some _) ?_
        refine aw_getf (pcn := 64) fl_X6_224 dX6_meetHeight_61 rfl hW.sc rfl ?_
        refine aw_icmp_ne (t := 81) (pcn := 67) dX6_meetHeight_64 rfl (by decide) (fun q5 => ?_) (fun q5 => ?_)
        · refine aw_iincN (pcn := 84) dX6_meetHeight_81 rfl (by decide) rfl ?_
          dsimp only [List.set_cons_zero, List.set_cons_succ]
          refine aw_goto (t := 41) dX6_meetHeight_84 (by decide) ?_
          refine AW.forget 3 ?_
          dsimp only [List.set_cons_zero, List.set_cons_succ]
          refine kk h ?_
          rw [dlT, if_neg (fun e => q5 e.2)]; exact hW
        · refine aw_alo 0 (pcn := 68) rfl dX6_meetHeight_67 rfl rfl (rf_some _) ?_
          refine aw_alo 1 (pcn := 69) rfl dX6_meetHeight_68 rfl rfl (rf_some _) ?_
          refine aw_ilo 2 (pcn := 70) rfl dX6_meetHeight_69 rfl rfl ?_
          refine aw_alo 3 (pcn := 71) rfl dX6_meetHeight_70 rfl rfl (rf_some _) ?_
          refine aw_getf (pcn := 74) fl_X6_164 dX6_meetHeight_71 rfl hlo rfl ?_
          rw [hP1]
          refine aw_alo 3 (pcn := 75) rfl dX6_meetHeight_74 rfl rfl (rf_some _) ?_
          refine aw_getf (pcn := 78) fl_X6_167 dX6_meetHeight_75 rfl hlo rfl ?_
          refine aw_Vv (pcn := 81) (c_payHeld hW (c := c) vc (K := k) (P := P) hP _ (del_sub (hJ.he hcC).1 hk3 hb0)) mf_X6_payHeldLock mv_X6_payHeldLock hW.sc rfl ml_X6_298 rfl (by decide) (by decide) (by decide) (by exact Nat.le_of_ble_eq_true rfl) rfl dX6_meetHeight_78 rfl (fun h hW => ?_)
          obtain ⟨hW, hk⟩ := hW
          refine aw_iincN (pcn := 84) dX6_meetHeight_81 rfl (by decide) rfl ?_
          dsimp only [List.set_cons_zero, List.set_cons_succ]
          refine aw_goto (t := 41) dX6_meetHeight_84 (by decide) ?_
          refine AW.forget 3 ?_
          dsimp only [List.set_cons_zero, List.set_cons_succ]
          refine kk h ?_
          rw [dlT, if_pos ⟨hb0, q5⟩, show A 19 (35 * ix (A 10 c) + 16 + 5 * k + 1) = nI P from hP1, ix_nI (by omega)]; exact hW
    have HJ := hI.du hcC
    have lj : ∀ (A : TB) k, dlT A c (ix (du1 T c 10 c)) k 10 c = A 10 c := fun A k => dlT_j _ _ _ _ _ (by decide) (by decide) (by decide)
    refine body 0 (by decide) _ h HJ rfl hW (fun h hW => ?_)
    refine body 1 (by decide) _ h (HJ.dl hcC (by decide)) (lj _ _) hW (fun h hW => ?_)
    refine body 2 (by decide) _ h ((HJ.dl hcC (by decide)).dl hcC (by decide)) ((lj _ _).trans (lj _ _)) hW (fun h hW => ?_)
    have HD := ((HJ.dl (b := ix (du1 T c 10 c)) hcC (show 0 < 3 by decide)).dl (b := ix (du1 T c 10 c)) hcC (show 1 < 3 by decide)).dl (b := ix (du1 T c 10 c)) hcC (show 2 < 3 by decide)
    have hW : WD Γ ow h (dl3 (du1 T c) c (ix (du1 T c 10 c))) Tr nh := hW
    have HD : Iv i (dl3 (du1 T c) c (ix (du1 T c 10 c))) C n Z hN := HD
    unfold duesI duesT
    generalize dl3 (du1 T c) c (ix (du1 T c 10 c)) = D at hW HD ⊢
    have vc := HD.vc hcC
    obtain ⟨g, hc, hg⟩ := hW.ch (c := c) vc
    have hE := HD.he hcC
    refine aw_ilo 2 (pcn := 42) rfl dX6_meetHeight_41 rfl rfl ?_
    refine aw_iconst (v := nI 3) (pcn := 43) dX6_meetHeight_42 rfl (by decide) ?_
    refine aw_icmp_ge (t := 87) (pcn := 46) dX6_meetHeight_43 rfl (by decide) (fun q6 => ?_) (fun q6 => absurd (by decide) q6)
    refine aw_alo 1 (pcn := 88) rfl dX6_meetHeight_87 rfl rfl (rf_some _) ?_
    refine aw_getf (pcn := 91) fl_X6_250 dX6_meetHeight_88 rfl hc rfl ?_
    refine aw_ast 2 (pcn := 92) rfl dX6_meetHeight_91 rfl (by decide) (rfl) ?_
    dsimp only [List.set_cons_zero, List.set_cons_succ]
    refine aw_alo 2 (pcn := 93) rfl dX6_meetHeight_92 rfl rfl (rfl) ?_
    refine aw_ifnull (t := 120) (pcn := 96) dX6_meetHeight_93 rfl (by decide) rfl (fun q7 => ?_) (fun a8 q7 => ?_)
    · have hz := hg.n q7
      exact aw_ret dX6_meetHeight_120 rfl ⟨rfl, (by unfold dgT; first | (rw [if_neg (fun e => by rw [hz] at e; exact absurd e.1 (by decide))]; exact hW) | (rw [if_neg (fun e => absurd e.2 q7)]; exact hW) | (rw [if_pos ⟨pos_of hE.2.2.2.1.1 hz.1, q7⟩, hP1, ix_nI (by omega)]; exact hW))⟩
    · have hz := hg.s q7
      subst q7
      obtain ⟨P, hP, hP1⟩ := (hE.2.2.2.1.2 hz.1).2.1
      refine aw_alo 1 (pcn := 97) rfl dX6_meetHeight_96 rfl rfl (rf_some _) ?_
      refine aw_getf (pcn := 100) fl_X6_253 dX6_meetHeight_97 rfl hc rfl ?_
      rw [hE.2.2.2.2.1 hz.1]
      refine aw_alo 0 (pcn := 101) rfl dX6_meetHeight_100 rfl rfl (rf_some _) ?_
      refine aw_getf (pcn := 104) fl_X6_224 dX6_meetHeight_101 rfl hW.sc rfl ?_
      refine aw_icmp_ne (t := 120) (pcn := 107) dX6_meetHeight_104 rfl (by decide) (fun q9 => ?_) (fun q9 => ?_)
      · exact aw_ret dX6_meetHeight_120 rfl ⟨rfl, (by unfold dgT; first | (rw [if_neg (fun e => by rw [hz] at e; exact absurd e.1 (by decide))]; exact hW) | (rw [if_neg (fun e => absurd e.2 q9)]; exact hW) | (rw [if_pos ⟨pos_of hE.2.2.2.1.1 hz.1, q9⟩, hP1, ix_nI (by omega)]; exact hW))⟩
      · refine aw_alo 0 (pcn := 108) rfl dX6_meetHeight_107 rfl rfl (rf_some _) ?_
        refine aw_alo 1 (pcn := 109) rfl dX6_meetHeight_108 rfl rfl (rf_some _) ?_
        refine aw_alo 2 (pcn := 110) rfl dX6_meetHeight_109 rfl rfl (rf_some _) ?_
        refine aw_getf (pcn := 113) fl_X6_319 dX6_meetHeight_110 rfl hz.2 rfl ?_
        rw [hP1]
        refine aw_alo 2 (pcn := 114) rfl dX6_meetHeight_113 rfl rfl (rf_some _) ?_
        refine aw_getf (pcn := 117) fl_X6_179 dX6_meetHeight_114 rfl hz.2 rfl ?_
        refine aw_Vv (pcn := 120) (c_payStake hW (c := c) vc hP rfl) mf_X6_payHeldStake mv_X6_payHeldStake hW.sc rfl ml_X6_302 rfl (by decide) (by decide) (by decide) (by exact Nat.le_of_ble_eq_true rfl) rfl dX6_meetHeight_117 rfl (fun h hW => ?_)
        obtain ⟨hW, hk⟩ := hW
        exact aw_ret dX6_meetHeight_120 rfl ⟨rfl, (by unfold dgT; first | (rw [if_neg (fun e => by rw [hz] at e; exact absurd e.1 (by decide))]; exact hW) | (rw [if_neg (fun e => absurd e.2 q9)]; exact hW) | (rw [if_pos ⟨pos_of hE.2.2.2.1.1 hz.1, q9⟩, hP1, ix_nI (by omega)]; exact hW))⟩
  refine aw_alo 1 (pcn := 1) rfl dX6_meetHeight_0 rfl rfl (rf_some _) ?_
  refine aw_ifnonnull (t := 5) (pcn := 4) dX6_meetHeight_1 rfl (by decide) (rf_some _) (fun a11 q10 => ?_) (fun q10 => by cases q10)
  clear q10 a11
  refine aw_alo 1 (pcn := 6) rfl dX6_meetHeight_5 rfl rfl (rf_some _) ?_
  refine aw_getf (pcn := 9) fl_X6_97 dX6_meetHeight_6 rfl hc rfl ?_
  refine aw_iconst (v := nI 2) (pcn := 10) dX6_meetHeight_9 rfl (by decide) ?_
  refine aw_icmp_ne (t := 39) (pcn := 13) dX6_meetHeight_10 rfl (by decide) (fun q12 => ?_) (fun q12 => ?_)
  · exact J h (by first | (rw [du1, if_pos ⟨qph, by assumption⟩, hb2, ix_nI (by omega)]; exact hW) | (rw [du1, if_neg (by rintro ⟨_, _⟩; contradiction)]; exact hW))
  · have qph := q12
    refine aw_alo 1 (pcn := 14) rfl dX6_meetHeight_13 rfl rfl (rf_some _) ?_
    refine aw_getf (pcn := 17) fl_X6_212 dX6_meetHeight_14 rfl hc rfl ?_
    rw [(hI.ch hcC).2.2.2.2.2.2.2.2.1 qph]
    refine aw_alo 0 (pcn := 18) rfl dX6_meetHeight_17 rfl rfl (rf_some _) ?_
    refine aw_getf (pcn := 21) fl_X6_224 dX6_meetHeight_18 rfl hW.sc rfl ?_
    refine aw_icmp_ne (t := 39) (pcn := 24) dX6_meetHeight_21 rfl (by decide) (fun q13 => ?_) (fun q13 => ?_)
    · exact J h (by first | (rw [du1, if_pos ⟨qph, by assumption⟩, hb2, ix_nI (by omega)]; exact hW) | (rw [du1, if_neg (by rintro ⟨_, _⟩; contradiction)]; exact hW))
    · refine aw_alo 1 (pcn := 25) rfl dX6_meetHeight_24 rfl rfl (rf_some _) ?_
      refine aw_getf (pcn := 28) fl_X6_230 dX6_meetHeight_25 rfl hc rfl ?_
      obtain ⟨b, hbn, hb2, hbc⟩ := (hI.ch hcC).2.2.2.2.1 (ph21 qph)
      obtain ⟨gb, hbo, _⟩ := hW.st (hI.vs hbn) hc8 hbc
      rw [hb2, sref_nI (by omega)]
      refine aw_ifnull (t := 39) (pcn := 31) dX6_meetHeight_28 rfl (by decide) (rf_some _) (fun q14 => by cases q14) (fun a15 q14 => ?_)
      clear q14 a15
      refine aw_alo 0 (pcn := 32) rfl dX6_meetHeight_31 rfl rfl (rf_some _) ?_
      refine aw_alo 1 (pcn := 33) rfl dX6_meetHeight_32 rfl rfl (rf_some _) ?_
      refine aw_getf (pcn := 36) fl_X6_230 dX6_meetHeight_33 rfl hc rfl ?_
      rw [hb2, sref_nI (by omega)]
      refine aw_Vv (pcn := 39) (c_endBy hW (S := b) (c := c) (by omega) (hI.vs hbn) hc8 vc hbc (by rw [((hI.he hcC).2.1 (ph23 qph)).1, nI_0]) (fun k hk => ((hI.st hbn).2.2.1 k hk).1) (fun k hk => ((hI.st hbn).2.2.1 k hk).2.1)) mf_X6_endBy mv_X6_endBy hW.sc rfl ml_X6_239 rfl (by decide) (by decide) (by decide) (by exact Nat.le_of_ble_eq_true rfl) rfl dX6_meetHeight_36 rfl (fun h hW => ?_)
      exact J h (by first | (rw [du1, if_pos ⟨qph, by assumption⟩, hb2, ix_nI (by omega)]; exact hW) | (rw [du1, if_neg (by rintro ⟨_, _⟩; contradiction)]; exact hW))

set_option maxHeartbeats 1600000 in
set_option maxRecDepth 20000 in
theorem c_playFor {X : XG} {l : Launch} {Γ : NM} {ow : Nat → Nat × Nat} {h : Hp} {T Tr : TB} {nh : Nat} (hW : WD Γ ow h T Tr nh) {i C n Z hN : Nat} (hI : Iv i T C n Z hN) {c : Nat} (hcC : c < C) {P : Nat} (hP : P < 6) : AM X l yX6_playFor cX6_playFor 5 (none) 4 1 4 [.ref (Γ 0 0), .int (nI P), .ref (Γ 7 c)] h (qv fun h' => WD Γ ow h' (plyT T c P) Tr nh) := by
  refine AM.of (by decide +kernel) (by simp [Value.category]) (Nat.le_of_ble_eq_true rfl) ?_
  show AW X l cX6_playFor RX6 "playFor" (none) 5 4 none _ 1 4 0 [some (.ref (Γ 0 0)), some (.int (nI P)), some (.ref (Γ 7 c)), none, none] [] h
  have h64 := hI.n64
  have h8 := hI.C8
  have h16 := hI.Z16
  have h4 := hI.h4
  have vc := hI.vc hcC
  obtain ⟨g, hc, hg⟩ := hW.ch vc
  refine aw_alo 2 (pcn := 1) rfl dX6_playFor_0 rfl rfl (rf_some _) ?_
  refine aw_getf (pcn := 4) fl_X6_250 dX6_playFor_1 rfl hc rfl ?_
  refine aw_ast 3 (pcn := 5) rfl dX6_playFor_4 rfl (by decide) (rfl) ?_
  dsimp only [List.set_cons_zero, List.set_cons_succ]
  refine aw_alo 3 (pcn := 6) rfl dX6_playFor_5 rfl rfl (rfl) ?_
  refine aw_ifnull (t := 42) (pcn := 9) dX6_playFor_6 rfl (by decide) rfl (fun q1 => ?_) (fun a2 q1 => ?_)
  · have hz := hg.n q1
    exact aw_ret dX6_playFor_42 rfl ⟨rfl, (by unfold plyT; rw [if_neg (fun e => by rw [hz] at e; exact absurd e.1 (by decide))]; exact hW)⟩
  · have hz := hg.s q1
    subst q1
    obtain ⟨_, _, kk, hk0, hk20, hhp⟩ := (hI.he hcC).2.2.2.1.2 hz.1
    refine aw_alo 3 (pcn := 10) rfl dX6_playFor_9 rfl rfl (rf_some _) ?_
    refine aw_getf (pcn := 13) fl_X6_189 dX6_playFor_10 rfl hz.2 rfl ?_
    refine aw_ilo 1 (pcn := 14) rfl dX6_playFor_13 rfl rfl ?_
    refine aw_icmp_ne (t := 42) (pcn := 17) dX6_playFor_14 rfl (by decide) (fun q3 => ?_) (fun q3 => ?_)
    · exact aw_ret dX6_playFor_42 rfl ⟨rfl, (by unfold plyT; first | (rw [if_neg (fun e => by rw [hz] at e; exact absurd e.1 (by decide))]; exact hW) | (rw [if_neg (fun e => absurd e.2 q3)]; exact hW) | (rw [if_pos ⟨pos_of (hI.he hcC).2.2.2.1.1 hz.1, q1⟩, show rem4 (T 14 c) = nI (kk % 4) by rw [hhp]; exact rem4_nI hk20, if_pos q3]; exact hW) | (rw [if_pos ⟨pos_of (hI.he hcC).2.2.2.1.1 hz.1, q1⟩, show rem4 (T 14 c) = nI (kk % 4) by rw [hhp]; exact rem4_nI hk20, if_neg q3]; exact hW))⟩
    · refine aw_alo 3 (pcn := 18) rfl dX6_playFor_17 rfl rfl (rf_some _) ?_
      refine aw_getf (pcn := 21) fl_X6_182 dX6_playFor_18 rfl hz.2 rfl ?_
      refine aw_iconst (v := nI 4) (pcn := 22) dX6_playFor_21 rfl (by decide) ?_
      refine aw_irem (pcn := 23) dX6_playFor_22 rfl (by decide) ?_
      rw [show T 14 c - T 14 c / nI 4 * nI 4 = nI (kk % 4) by rw [hhp]; exact rem4_nI hk20]
      refine aw_istore (pcn := 25) dX6_playFor_23 rfl (by decide) ?_
      dsimp only [List.set_cons_zero, List.set_cons_succ]
      refine aw_alo 0 (pcn := 26) rfl dX6_playFor_25 rfl rfl (rf_some _) ?_
      refine aw_alo 2 (pcn := 27) rfl dX6_playFor_26 rfl rfl (rf_some _) ?_
      refine aw_alo 3 (pcn := 28) rfl dX6_playFor_27 rfl rfl (rf_some _) ?_
      refine aw_iload (pcn := 30) dX6_playFor_28 rfl rfl ?_
      refine aw_if_ne (t := 37) (pcn := 33) dX6_playFor_30 rfl (by decide) (fun q4 => ?_) (fun q4 => ?_)
      · refine aw_iload (pcn := 39) dX6_playFor_37 rfl rfl ?_
        refine aw_Vv (pcn := 42) (c_moveHeld hW (c := c) vc (t := kk % 4) hz.1 hz.2 hP q3 hhp hk20 (Nat.mod_le _ _)) mf_X6_moveHeld mv_X6_moveHeld hW.sc rfl ml_X6_284 rfl (by decide) (by decide) (by decide) (by exact Nat.le_of_ble_eq_true rfl) rfl dX6_playFor_39 rfl (fun h hW => ?_)
        obtain ⟨hW, hk⟩ := hW
        exact aw_ret dX6_playFor_42 rfl ⟨rfl, (by unfold plyT; first | (rw [if_neg (fun e => by rw [hz] at e; exact absurd e.1 (by decide))]; exact hW) | (rw [if_neg (fun e => absurd e.2 q4)]; exact hW) | (rw [if_pos ⟨pos_of (hI.he hcC).2.2.2.1.1 hz.1, q3⟩, show rem4 (T 14 c) = nI (kk % 4) by rw [hhp]; exact rem4_nI hk20, if_pos q4]; exact hW) | (rw [if_pos ⟨pos_of (hI.he hcC).2.2.2.1.1 hz.1, q3⟩, show rem4 (T 14 c) = nI (kk % 4) by rw [hhp]; exact rem4_nI hk20, if_neg q4]; exact hW))⟩
      · refine aw_iconst (v := nI 1) (pcn := 34) dX6_playFor_33 rfl (by decide) ?_
        refine aw_goto (t := 39) dX6_playFor_34 (by decide) ?_
        refine aw_Vv (pcn := 42) (c_moveHeld hW (c := c) vc (t := 1) hz.1 hz.2 hP q3 hhp hk20 (by omega)) mf_X6_moveHeld mv_X6_moveHeld hW.sc rfl ml_X6_284 rfl (by decide) (by decide) (by decide) (by exact Nat.le_of_ble_eq_true rfl) rfl dX6_playFor_39 rfl (fun h hW => ?_)
        obtain ⟨hW, hk⟩ := hW
        exact aw_ret dX6_playFor_42 rfl ⟨rfl, (by unfold plyT; first | (rw [if_neg (fun e => by rw [hz] at e; exact absurd e.1 (by decide))]; exact hW) | (rw [if_neg (fun e => absurd e.2 q4)]; exact hW) | (rw [if_pos ⟨pos_of (hI.he hcC).2.2.2.1.1 hz.1, q3⟩, show rem4 (T 14 c) = nI (kk % 4) by rw [hhp]; exact rem4_nI hk20, if_pos q4]; exact hW) | (rw [if_pos ⟨pos_of (hI.he hcC).2.2.2.1.1 hz.1, q3⟩, show rem4 (T 14 c) = nI (kk % 4) by rw [hhp]; exact rem4_nI hk20, if_neg q4]; exact hW))⟩

theorem urI_n {T : TB} {c s p k : Nat} {D : Int32} (h : ¬ D = 0) : urI T c s p k D = nI 1 := if_neg h
def urB (T : TB) (c s p k : Nat) : Bool := !decide (urI T c s p k (nI 0) = 0)
theorem urB_v {T : TB} {c s p k z : Nat} (hmu : ¬ T 19 (35 * s + 16 + 5 * k + 0) ≤ 0) (hz : T 19 (35 * s + 16 + 5 * k + 3) = nI z) (hz16 : z < 16) : urB T c s p k = ((decide (lkT T s k 2 = nI p) && hasB (T 4 z) (nI p)) && decide (lkT T s k 4 = T 2 0 + T 7 c + nI 1)) := by
  unfold urB urI
  rw [if_pos nI_0, if_neg hmu, hz, ix_nI (by omega)]
  by_cases e1 : T 19 (35 * s + 16 + 5 * k + 2) = nI p
  · rw [if_pos e1, decide_eq_true (show lkT T s k 2 = nI p from e1), Bool.true_and]
    cases e2 : hasB (T 4 z) (nI p)
    · rfl
    · rw [if_pos rfl, Bool.true_and]
      by_cases e3 : T 19 (35 * s + 16 + 5 * k + 4) = T 2 0 + T 7 c + nI 1
      · rw [if_pos e3, decide_eq_true (show lkT T s k 4 = T 2 0 + T 7 c + nI 1 from e3)]; rfl
      · rw [if_neg e3, decide_eq_false (show ¬ lkT T s k 4 = T 2 0 + T 7 c + nI 1 from e3)]; rfl
  · rw [if_neg e1, decide_eq_false (show ¬ lkT T s k 2 = nI p from e1)]
    rfl
theorem ur3_eq (T : TB) (c s p : Nat) : (!decide (ur3 T c s p = 0)) = (urB T c s p 0 || (urB T c s p 1 || urB T c s p 2)) := by
  have hd : ∀ k D, D = 0 → urI T c s p k D = urI T c s p k (nI 0) := fun k D h => by rw [h, nI_0]
  unfold ur3 urB
  by_cases e0 : urI T c s p 0 (nI 0) = 0
  · rw [hd 1 _ e0, decide_eq_true e0]
    by_cases e1 : urI T c s p 1 (nI 0) = 0
    · rw [hd 2 _ e1, decide_eq_true e1]
      rfl
    · rw [urI_n e1, decide_eq_false e1]
      rfl
  · rw [urI_n e0, urI_n (show ¬ nI 1 = 0 by decide), decide_eq_false e0]
    rfl
set_option maxHeartbeats 1600000 in
set_option maxRecDepth 20000 in
theorem c_urgent {X : XG} {l : Launch} {Γ : NM} {ow : Nat → Nat × Nat} {h : Hp} {T Tr : TB} {nh : Nat} (hW : WD Γ ow h T Tr nh) {i C n Z hN : Nat} (hI : Iv i T C n Z hN) {S c : Nat} (hSn : S < n) (hcC : c < C) (hc0 : T 19 (35 * S + 0) = nI c) {P : Nat} (hP : P < 6) : AM X l yX6_hasUrgentLock cX6_hasUrgentLock 5 (some .boolean) 3 0 0 [.ref (Γ 0 0), .ref (Γ 8 S), .int (nI P)] h (qi fun r h' => r = bI (!decide (ur3 T c S P = 0)) ∧ h' = h) := by
  refine AM.of (by decide +kernel) (by simp [Value.category]) (Nat.le_of_ble_eq_true rfl) ?_
  show AW X l cX6_hasUrgentLock RX6 "hasUrgentLock" (some .boolean) 5 3 none _ 0 0 0 [some (.ref (Γ 0 0)), some (.ref (Γ 8 S)), some (.int (nI P)), none, none] [] h
  have h64 := hI.n64
  have h8 := hI.C8
  have h16 := hI.Z16
  have h4 := hI.h4
  have hc8 : c < 8 := by omega
  have vc := hI.vc hcC
  have vs := hI.vs hSn
  obtain ⟨g, hc, hg⟩ := hW.ch vc
  obtain ⟨gs, hs, hgs⟩ := hW.st vs hc8 hc0
  refine aw_iconst (v := nI 0) (pcn := 1) dX6_hasUrgentLock_0 rfl (by decide) ?_
  refine aw_ist 3 (pcn := 2) rfl dX6_hasUrgentLock_1 rfl (by decide) ?_
  dsimp only [List.set_cons_zero, List.set_cons_succ]
  have body : ∀ (k : Nat), k < 3 → (urB T c S P k = true → (urB T c S P 0 || (urB T c S P 1 || urB T c S P 2)) = true) → (urB T c S P k = false → AW X l cX6_hasUrgentLock RX6 "hasUrgentLock" (some .boolean) 5 3 none (qi fun r h' => r = bI (!decide (ur3 T c S P = 0)) ∧ h' = h) 0 0 2 [some (.ref (Γ 0 0)), some (.ref (Γ 8 S)), some (.int (nI P)), some (.int (nI (k + 1))), none] [] h) → AW X l cX6_hasUrgentLock RX6 "hasUrgentLock" (some .boolean) 5 3 none (qi fun r h' => r = bI (!decide (ur3 T c S P = 0)) ∧ h' = h) 0 0 2 [some (.ref (Γ 0 0)), some (.ref (Γ 8 S)), some (.int (nI P)), some (.int (nI (k))), none] [] h := by
    intro k hk3 hor kk
    obtain ⟨l0, l1, l2, l3, l4⟩ := (hI.st hSn).2.2.1 k hk3
    refine aw_ilo 3 (pcn := 3) rfl dX6_hasUrgentLock_2 rfl rfl ?_
    refine aw_iconst (v := nI 3) (pcn := 4) dX6_hasUrgentLock_3 rfl (by decide) ?_
    refine aw_icmp_ge (t := 59) (pcn := 7) dX6_hasUrgentLock_4 rfl (by decide) (fun q => absurd q (nI_ge hk3 (by decide))) (fun _ => ?_)
    refine aw_alo 1 (pcn := 8) rfl dX6_hasUrgentLock_7 rfl rfl (rf_some _) ?_
    refine aw_ilo 3 (pcn := 9) rfl dX6_hasUrgentLock_8 rfl rfl ?_
    refine aw_Vr (pcn := 12) (c_lockAtN hW hI hSn hcC hc0 hk3) mf_X4_lockAt mv_X4_lockAt hs rfl ml_X6_153 rfl (by decide) (by decide) (by decide) (by exact Nat.le_of_ble_eq_true rfl) rfl dX6_hasUrgentLock_9 rfl (fun r h2 hq => ?_)
    obtain ⟨hq, hh⟩ := hq
    obtain rfl := hh.symm
    have hr := hq
    refine aw_astore (pcn := 14) dX6_hasUrgentLock_12 rfl (by decide) (rfl) ?_
    dsimp only [List.set_cons_zero, List.set_cons_succ]
    refine aw_aload (pcn := 16) dX6_hasUrgentLock_14 rfl rfl (rfl) ?_
    refine aw_ifnull (t := 53) (pcn := 19) dX6_hasUrgentLock_16 rfl (by decide) rfl (fun q1 => ?_) (fun a2 q1 => ?_)
    · have hz := hr.n q1
      refine aw_iincN (pcn := 56) dX6_hasUrgentLock_53 rfl (by decide) rfl ?_
      dsimp only [List.set_cons_zero, List.set_cons_succ]
      refine aw_goto (t := 2) dX6_hasUrgentLock_56 (by decide) ?_
      refine AW.forget 4 ?_
      dsimp only [List.set_cons_zero, List.set_cons_succ]
      exact kk (by unfold urB urI; rw [if_pos nI_0, if_pos (by rw [show T 19 (35 * S + 16 + 5 * k + 0) = 0 from hz]; exact Int32.le_refl _)]; rfl)
    · have hz := hr.s q1
      subst q1
      obtain ⟨z, hzZ, hz1⟩ := l4 hz.1
      have hlo := hz.2
      rw [hz1] at hlo
      have hz1' : T 19 (35 * S + 16 + 5 * k + 3) = nI z := hz1
      have hmu : ¬ T 19 (35 * S + 16 + 5 * k + 0) ≤ 0 := fun e => hz.1 (Int32.le_antisymm e l0)
      refine aw_alo 0 (pcn := 20) rfl dX6_hasUrgentLock_19 rfl rfl (rf_some _) ?_
      refine aw_aload (pcn := 22) dX6_hasUrgentLock_20 rfl rfl (rf_some _) ?_
      refine aw_ilo 2 (pcn := 23) rfl dX6_hasUrgentLock_22 rfl rfl ?_
      refine aw_Vi (pcn := 26) (c_canClaim hW hI hlo hzZ hP) mf_X6_canClaim mv_X6_canClaim hW.sc rfl ml_X6_294 rfl (by decide) (by decide) (by decide) (by exact Nat.le_of_ble_eq_true rfl) rfl dX6_hasUrgentLock_23 rfl (fun r h2 hq => ?_)
      obtain ⟨rfl, hq⟩ := hq
      obtain rfl := hq.symm
      refine aw_if_eqB (t := 53) (pcn := 29) dX6_hasUrgentLock_26 rfl (by decide) (fun q3 => ?_) (fun q3 => ?_)
      · refine aw_iincN (pcn := 56) dX6_hasUrgentLock_53 rfl (by decide) rfl ?_
        dsimp only [List.set_cons_zero, List.set_cons_succ]
        refine aw_goto (t := 2) dX6_hasUrgentLock_56 (by decide) ?_
        refine AW.forget 4 ?_
        dsimp only [List.set_cons_zero, List.set_cons_succ]
        exact kk (by rw [urB_v hmu hz1' (by omega), q3]; rfl)
      · refine aw_aload (pcn := 31) dX6_hasUrgentLock_29 rfl rfl (rf_some _) ?_
        refine aw_getf (pcn := 34) fl_X6_256 dX6_hasUrgentLock_31 rfl hlo rfl ?_
        refine aw_alo 0 (pcn := 35) rfl dX6_hasUrgentLock_34 rfl rfl (rf_some _) ?_
        refine aw_getf (pcn := 38) fl_X6_224 dX6_hasUrgentLock_35 rfl hW.sc rfl ?_
        refine aw_alo 1 (pcn := 39) rfl dX6_hasUrgentLock_38 rfl rfl (rf_some _) ?_
        refine aw_getf (pcn := 42) fl_X6_195 dX6_hasUrgentLock_39 rfl hs rfl ?_
        refine aw_getf (pcn := 45) fl_X6_227 dX6_hasUrgentLock_42 rfl hc rfl ?_
        refine aw_iadd (pcn := 46) dX6_hasUrgentLock_45 rfl ?_
        refine aw_iconst (v := nI 1) (pcn := 47) dX6_hasUrgentLock_46 rfl (by decide) ?_
        refine aw_iadd (pcn := 48) dX6_hasUrgentLock_47 rfl ?_
        refine aw_icmp_ne (t := 53) (pcn := 51) dX6_hasUrgentLock_48 rfl (by decide) (fun q4 => ?_) (fun q4 => ?_)
        · refine aw_iincN (pcn := 56) dX6_hasUrgentLock_53 rfl (by decide) rfl ?_
          dsimp only [List.set_cons_zero, List.set_cons_succ]
          refine aw_goto (t := 2) dX6_hasUrgentLock_56 (by decide) ?_
          refine AW.forget 4 ?_
          dsimp only [List.set_cons_zero, List.set_cons_succ]
          exact kk (by rw [urB_v hmu hz1' (by omega), q3, decide_eq_false q4]; rfl)
        · refine aw_iconst (v := nI 1) (pcn := 52) dX6_hasUrgentLock_51 rfl (by decide) ?_
          exact aw_zret dX6_hasUrgentLock_52 rfl (by decide) ⟨_, rfl, ⟨by rw [ur3_eq, hor (by rw [urB_v hmu hz1' (by omega), q3, decide_eq_true q4]; rfl)]; exact nI_one, rfl⟩⟩
  refine body 0 (by decide) (fun e => by rw [e]; rfl) (fun e0 => ?_)
  refine body 1 (by decide) (fun e => by rw [e, Bool.true_or, Bool.or_true]) (fun e1 => ?_)
  refine body 2 (by decide) (fun e => by rw [e, Bool.or_true, Bool.or_true]) (fun e2 => ?_)
  refine aw_ilo 3 (pcn := 3) rfl dX6_hasUrgentLock_2 rfl rfl ?_
  refine aw_iconst (v := nI 3) (pcn := 4) dX6_hasUrgentLock_3 rfl (by decide) ?_
  refine aw_icmp_ge (t := 59) (pcn := 7) dX6_hasUrgentLock_4 rfl (by decide) (fun q5 => ?_) (fun q5 => absurd (by decide) q5)
  refine aw_iconst (v := nI 0) (pcn := 60) dX6_hasUrgentLock_59 rfl (by decide) ?_
  exact aw_zret dX6_hasUrgentLock_60 rfl (by decide) ⟨_, rfl, ⟨by rw [ur3_eq, e0, e1, e2]; exact nI_0, rfl⟩⟩
