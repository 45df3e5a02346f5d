/-! the class's face: moves, agreeing, secrets, claims, steps, watching, heights, looking -/
set_option maxHeartbeats 1600000 in
set_option maxRecDepth 20000 in
theorem c_a_move {X : XG} {l : Launch} {Γ : NM} {ow : Nat → Nat × Nat} {h : Hp} {T Tr : TB} {nh : Nat} (hW : WD Γ ow h T Tr nh) {i C n Z hN : Nat} (hI : Iv i T C n Z hN) (s t : Int32) : AM X l yX6_move cX6_move 5 (some .int) 3 1 4 [.ref (Γ 0 0), .int s, .int t] h (qi fun r h' => r = (moveT T s t).1 ∧ WD Γ ow h' (moveT T s t).2 Tr nh) := by
  refine AM.of (by decide +kernel) (by simp [Value.category]) (Nat.le_of_ble_eq_true rfl) ?_
  show AW X l cX6_move RX6 "move" (some .int) 5 3 none _ 1 4 0 [some (.ref (Γ 0 0)), some (.int s), some (.int t), none, none] [] h
  have h64 := hI.n64
  have h8 := hI.C8
  have h16 := hI.Z16
  have h4 := hI.h4
  refine aw_alo 0 (pcn := 1) rfl dX6_move_0 rfl rfl (rf_some _) ?_
  refine aw_ilo 1 (pcn := 2) rfl dX6_move_1 rfl rfl ?_
  refine aw_Vr (pcn := 5) (c_stateAt hW hI _) mf_X6_stateAt mv_X6_stateAt hW.sc rfl ml_X6_123 rfl (by decide) (by decide) (by decide) (by exact Nat.le_of_ble_eq_true rfl) rfl dX6_move_2 rfl (fun r h2 hq => ?_)
  obtain ⟨hq, hh⟩ := hq
  obtain rfl := hh.symm
  rcases hq with ⟨e0, rfl⟩ | ⟨S, c, hSn, hcC, hc0, rfl, hst, rfl⟩
  · refine aw_ast 3 (pcn := 6) rfl dX6_move_5 rfl (by decide) (rf_none) ?_
    dsimp only [List.set_cons_zero, List.set_cons_succ]
    refine aw_alo 3 (pcn := 7) rfl dX6_move_6 rfl rfl (rf_none) ?_
    refine aw_ifnonnull (t := 12) (pcn := 10) dX6_move_7 rfl (by decide) (rf_none) (fun a2 q1 => by cases q1) (fun q1 => ?_)
    clear q1
    refine aw_iconst (v := -1) (pcn := 11) dX6_move_10 rfl (by decide) ?_
    exact aw_iret dX6_move_11 rfl ⟨_, rfl, ret3 (by first | (simp only [moveT, e0, Bool.false_eq_true, Bool.true_eq_false, reduceCtorEq, if_true, if_false, or_false, false_or, or_true, true_or, and_true, true_and, and_false, false_and, not_true_eq_false, not_false_eq_true, or_self, ← Int32.not_le, shiT]; done) | (rw [moveT_eq hS hc8 hc0 hst]; simp only [e0, ne_eq, Bool.false_eq_true, Bool.true_eq_false, reduceCtorEq, if_true, if_false, or_false, false_or, or_true, true_or, and_true, true_and, and_false, false_and, not_true_eq_false, not_false_eq_true, or_self, ← Int32.not_le, shiT]; done)) hW⟩
  · have hS : S < 64 := by omega
    have hc8 : c < 8 := by omega
    have vc := hI.vc hcC
    have vs := hI.vs hSn
    refine aw_ast 3 (pcn := 6) rfl dX6_move_5 rfl (by decide) (rf_some _) ?_
    dsimp only [List.set_cons_zero, List.set_cons_succ]
    refine aw_alo 3 (pcn := 7) rfl dX6_move_6 rfl rfl (rf_some _) ?_
    refine aw_ifnonnull (t := 12) (pcn := 10) dX6_move_7 rfl (by decide) (rf_some _) (fun a4 q3 => ?_) (fun q3 => by cases q3)
    clear q3 a4
    refine aw_alo 3 (pcn := 13) rfl dX6_move_12 rfl rfl (rf_some _) ?_
    obtain ⟨gs, hs, hgs⟩ := hW.st (s := S) vs hc8 hc0
    refine aw_Vi (pcn := 16) (c_isFixed hW hI hSn hcC hc0) mf_X4_isFixed mv_X4_isFixed hs rfl ml_X6_128 rfl (by decide) (by decide) (by decide) (by exact Nat.le_of_ble_eq_true rfl) rfl dX6_move_13 rfl (fun r h2 hq => ?_)
    obtain ⟨rfl, hq⟩ := hq
    obtain rfl := hq.symm
    refine aw_if_eqB (t := 22) (pcn := 19) dX6_move_16 rfl (by decide) (fun q5 => ?_) (fun q5 => ?_)
    · refine aw_ilo 2 (pcn := 23) rfl dX6_move_22 rfl rfl ?_
      refine aw_iconst (v := nI 1) (pcn := 24) dX6_move_23 rfl (by decide) ?_
      refine aw_iconst (v := nI 3) (pcn := 25) dX6_move_24 rfl (by decide) ?_
      refine aw_Si (pcn := 28) (c_isWithin _ _ _) mf_X6_isWithin mv_X6_isWithin ml_X6_42 rfl (by decide) (by decide) (by decide) (by exact Nat.le_of_ble_eq_true rfl) rfl dX6_move_25 rfl (fun r h2 hq => ?_)
      obtain ⟨rfl, hq⟩ := hq
      obtain rfl := hq.symm
      refine aw_if_neB (t := 34) (pcn := 31) dX6_move_28 rfl (by decide) (fun q6 => ?_) (fun q6 => ?_)
      · refine aw_alo 3 (pcn := 35) rfl dX6_move_34 rfl rfl (rf_some _) ?_
        obtain ⟨gs, hs, hgs⟩ := hW.st (s := S) vs hc8 hc0
        refine aw_getf (pcn := 38) fl_X6_170 dX6_move_35 rfl hs rfl ?_
        refine aw_astore (pcn := 40) dX6_move_38 rfl (by decide) (rfl) ?_
        dsimp only [List.set_cons_zero, List.set_cons_succ]
        refine aw_aload (pcn := 42) dX6_move_40 rfl rfl (rfl) ?_
        refine aw_ifnull (t := 54) (pcn := 45) dX6_move_42 rfl (by decide) rfl (fun q7 => ?_) (fun a8 q7 => ?_)
        · have hgz := hgs.n q7
          refine aw_bipush (v := -4) (pcn := 56) dX6_move_54 rfl (by decide) ?_
          exact aw_iret dX6_move_56 rfl ⟨_, rfl, ret3 (by first | (simp only [moveT, hst, q5, q6, hgz, Bool.false_eq_true, Bool.true_eq_false, reduceCtorEq, if_true, if_false, or_false, false_or, or_true, true_or, and_true, true_and, and_false, false_and, not_true_eq_false, not_false_eq_true, or_self, ← Int32.not_le, shiT]; done) | (rw [moveT_eq hS hc8 hc0 hst]; simp only [hst, q5, q6, hgz, ne_eq, Bool.false_eq_true, Bool.true_eq_false, reduceCtorEq, if_true, if_false, or_false, false_or, or_true, true_or, and_true, true_and, and_false, false_and, not_true_eq_false, not_false_eq_true, or_self, ← Int32.not_le, shiT]; done)) hW⟩
        · have hz := hgs.s q7
          subst q7
          have hgm := hz.2
          have hgz := hz.1
          refine aw_aload (pcn := 47) dX6_move_45 rfl rfl (rf_some _) ?_
          refine aw_getf (pcn := 50) fl_X6_182 dX6_move_47 rfl hgm rfl ?_
          refine aw_ilo 2 (pcn := 51) rfl dX6_move_50 rfl rfl ?_
          refine aw_icmp_ge (t := 57) (pcn := 54) dX6_move_51 rfl (by decide) (fun q9 => ?_) (fun q9 => ?_)
          · refine aw_alo 3 (pcn := 58) rfl dX6_move_57 rfl rfl (rf_some _) ?_
            refine aw_aload (pcn := 60) dX6_move_58 rfl rfl (rf_some _) ?_
            refine aw_ilo 2 (pcn := 61) rfl dX6_move_60 rfl rfl ?_
            obtain ⟨t0, ht0, ht3, rfl⟩ := inRp (v := t) (b := 3) (by decide) (by assumption)
            obtain ⟨htu, hot, kk, hk0, hk20, hhp⟩ := (hI.st hSn).2.2.2.1.2 hz.1
            obtain ⟨P, hP, hP1⟩ := htu
            have htk : t0 ≤ kk := by
              have e := q9
              rw [hhp, nI_leI (by omega) (by omega)] at e
              exact e
            refine aw_Vr (pcn := 64) (c_after hgm (nI t0)) mf_X1_after mv_X1_after hgm rfl ml_X6_185 rfl (by decide) (by decide) (by decide) (by exact Nat.le_of_ble_eq_true rfl) rfl dX6_move_61 rfl (fun r h2 hq => ?_)
            rcases hq with ⟨hle, rfl, hh⟩ | ⟨hle, b, hbn, rfl, hh⟩
            · obtain rfl := hh.symm
              rw [hhp, heap_le hk20 htk, ← hhp] at hle
              obtain ⟨gs, hs, hgs⟩ := hW.st (s := S) vs hc8 hc0
              refine aw_putS (pcn := 67) (T' := gsU T S (nI 0) (T 19 (35 * S + 32) - nI t0) (-1) (-1)) (g' := none) hW vs hs fp_X6_170 (by decide) (VF.o _ none) (ss_6 _ _ _ none _ _ _ _ _ _) (by rw [stG_gs]; exact hW.stGm vs hc8 hc0 ⟨fun _ => rfl, fun q => absurd nI_0 q⟩) dX6_move_64 rfl (fun h hW hk => ?_)
              have hgm := hk.gm hgm
              have hc0o := hc0
              have hc0 : gsU T S (nI 0) (T 19 (35 * S + 32) - nI t0) (-1) (-1) 19 (35 * S + 0) = nI c := by rw [gsU_o (by omega)]; exact hc0
              obtain ⟨gs, hs, hgs⟩ := hW.st (s := S) vs hc8 hc0
              have hgn := hgs.1 (by rw [(gsU_v _ _ _ _ _ _).1, nI_0])
              subst hgn
              refine aw_alo 3 (pcn := 68) rfl dX6_move_67 rfl rfl (rf_some _) ?_
              refine aw_getf (pcn := 71) fl_X6_170 dX6_move_68 rfl hs rfl ?_
              refine aw_ifnonnull (t := 91) (pcn := 74) dX6_move_71 rfl (by decide) (rf_none) (fun a11 q10 => by cases q10) (fun q10 => ?_)
              clear q10
              have hK := Kp.rfl (h := h)
              refine aw_alo 3 (pcn := 75) rfl dX6_move_74 rfl rfl (rf_some _) ?_
              refine aw_getf (pcn := 78) fl_X6_80 dX6_move_75 rfl hs rfl ?_
              refine aw_aload (pcn := 80) dX6_move_78 rfl rfl (rf_some _) ?_
              refine aw_getf (pcn := 83) fl_X6_189 dX6_move_80 rfl hgm rfl ?_
              rw [hP1]
              refine aw_aload (pcn := 85) dX6_move_83 rfl rfl (rf_some _) ?_
              refine aw_getf (pcn := 88) fl_X6_179 dX6_move_85 rfl hgm rfl ?_
              have hgm := hgm
              obtain ⟨fs, hsh1, hsh2, hsh3⟩ := hW.sh (s := S) vs
              refine aw_Vv (pcn := 91) (c_add0 hsh1 hsh2 hP _) mf_X5_add mv_X5_add hsh1 rfl ml_X6_74 rfl (by decide) (by decide) (by decide) (by exact Nat.le_of_ble_eq_true rfl) rfl dX6_move_88 rfl (fun h hq => ?_)
              have hK := hK.trans (Kp.put hW hq (v8 (T := gsU T S (nI 0) (T 19 (35 * S + 32) - nI t0) (-1) (-1)) vs (by decide) (by decide)))
              have hW := hW.shW (s := S) vs hsh3 hP (fs P + T 19 (35 * S + 31))
              rw [← hq] at hW
              clear hq
              rw [hsh3 P hP] at hW
              have hKK := hK
              have hgm := hKK.gm hgm
              refine aw_aload (pcn := 93) dX6_move_91 rfl rfl (rf_some _) ?_
              refine aw_getf (pcn := 96) fl_X6_182 dX6_move_93 rfl hgm rfl ?_
              refine aw_ilo 2 (pcn := 97) rfl dX6_move_96 rfl rfl ?_
              refine aw_isub (pcn := 98) dX6_move_97 rfl ?_
              exact aw_iret dX6_move_98 rfl ⟨_, rfl, ret3 (T' := movT T S (nI t0)) (by rw [moveT_eq hS hc8 hc0o hst]; simp only [hst, q5, q6, hgz, q9, ne_eq, Bool.false_eq_true, Bool.true_eq_false, reduceCtorEq, if_true, if_false, or_false, false_or, or_true, true_or, and_true, true_and, and_false, false_and, not_true_eq_false, not_false_eq_true, or_self, ← Int32.not_le, shiT]) (by rw [movT_eq _ _ _ (by rw [hP1, ix_nI (by omega)]; exact hP)]; first | (rw [if_pos hle, hP1, ix_nI (by omega), gsU_up _ _ _ _ _ _ _ _ (by omega)]; rw [gsU_o (by omega)] at hW; exact hW) | (rw [if_neg hle]; exact hW))⟩
            · have hW := hW.made (c := ob 1 [.int (T 19 (35 * S + 34)), .int (T 19 (35 * S + 33)), .int (T 19 (35 * S + 31)), .int (T 19 (35 * S + 32) - nI t0)]) hbn
              have hkb : Kp h h2 := by rw [hh]; exact Kp.new hbn
              have hbv : h2 b = some (ob 1 [.int (T 19 (35 * S + 34)), .int (T 19 (35 * S + 33)), .int (T 19 (35 * S + 31)), .int (T 19 (35 * S + 32) - nI t0)]) := by rw [hh]; exact hup_s _ _ _
              rw [← hh] at hW
              have hgm := hkb.gm hgm
              rw [hhp, heap_le hk20 htk, ← hhp] at hle
              obtain ⟨gs, hs, hgs⟩ := hW.st (s := S) vs hc8 hc0
              refine aw_putS (pcn := 67) (T' := gsU T S (T 19 (35 * S + 31)) (T 19 (35 * S + 32) - nI t0) (T 19 (35 * S + 34)) (T 19 (35 * S + 33))) (g' := some b) hW vs hs fp_X6_170 (by decide) (VF.o _ (some _)) (ss_6 _ _ _ (some b) _ _ _ _ _ _) (by rw [stG_gs]; exact hW.stGm vs hc8 hc0 ⟨fun q => absurd q hz.1, fun _ => ⟨b, rfl, hbv⟩⟩) dX6_move_64 rfl (fun h hW hk => ?_)
              have hgm := hk.gm hgm
              have hc0o := hc0
              have hc0 : gsU T S (T 19 (35 * S + 31)) (T 19 (35 * S + 32) - nI t0) (T 19 (35 * S + 34)) (T 19 (35 * S + 33)) 19 (35 * S + 0) = nI c := by rw [gsU_o (by omega)]; exact hc0
              obtain ⟨gs, hs, hgs⟩ := hW.st (s := S) vs hc8 hc0
              obtain ⟨b', rfl, _⟩ := hgs.2 (by rw [(gsU_v _ _ _ _ _ _).1]; exact hz.1)
              refine aw_alo 3 (pcn := 68) rfl dX6_move_67 rfl rfl (rf_some _) ?_
              refine aw_getf (pcn := 71) fl_X6_170 dX6_move_68 rfl hs rfl ?_
              refine aw_ifnonnull (t := 91) (pcn := 74) dX6_move_71 rfl (by decide) (rf_some _) (fun a13 q12 => ?_) (fun q12 => by cases q12)
              clear q12 a13
              refine aw_aload (pcn := 93) dX6_move_91 rfl rfl (rf_some _) ?_
              refine aw_getf (pcn := 96) fl_X6_182 dX6_move_93 rfl hgm rfl ?_
              refine aw_ilo 2 (pcn := 97) rfl dX6_move_96 rfl rfl ?_
              refine aw_isub (pcn := 98) dX6_move_97 rfl ?_
              exact aw_iret dX6_move_98 rfl ⟨_, rfl, ret3 (T' := movT T S (nI t0)) (by rw [moveT_eq hS hc8 hc0o hst]; simp only [hst, q5, q6, hgz, q9, ne_eq, Bool.false_eq_true, Bool.true_eq_false, reduceCtorEq, if_true, if_false, or_false, false_or, or_true, true_or, and_true, true_and, and_false, false_and, not_true_eq_false, not_false_eq_true, or_self, ← Int32.not_le, shiT]) (by rw [movT_eq _ _ _ (by rw [hP1, ix_nI (by omega)]; exact hP)]; first | (rw [if_pos hle, hP1, ix_nI (by omega), gsU_up _ _ _ _ _ _ _ _ (by omega)]; rw [gsU_o (by omega)] at hW; exact hW) | (rw [if_neg hle]; exact hW))⟩
          · refine aw_bipush (v := -4) (pcn := 56) dX6_move_54 rfl (by decide) ?_
            exact aw_iret dX6_move_56 rfl ⟨_, rfl, ret3 (by first | (simp only [moveT, hst, q5, q6, hgz, q9, Bool.false_eq_true, Bool.true_eq_false, reduceCtorEq, if_true, if_false, or_false, false_or, or_true, true_or, and_true, true_and, and_false, false_and, not_true_eq_false, not_false_eq_true, or_self, ← Int32.not_le, shiT]; done) | (rw [moveT_eq hS hc8 hc0 hst]; simp only [hst, q5, q6, hgz, q9, ne_eq, Bool.false_eq_true, Bool.true_eq_false, reduceCtorEq, if_true, if_false, or_false, false_or, or_true, true_or, and_true, true_and, and_false, false_and, not_true_eq_false, not_false_eq_true, or_self, ← Int32.not_le, shiT]; done)) hW⟩
      · refine aw_bipush (v := -3) (pcn := 33) dX6_move_31 rfl (by decide) ?_
        exact aw_iret dX6_move_33 rfl ⟨_, rfl, ret3 (by first | (simp only [moveT, hst, q5, q6, Bool.false_eq_true, Bool.true_eq_false, reduceCtorEq, if_true, if_false, or_false, false_or, or_true, true_or, and_true, true_and, and_false, false_and, not_true_eq_false, not_false_eq_true, or_self, ← Int32.not_le, shiT]; done) | (rw [moveT_eq hS hc8 hc0 hst]; simp only [hst, q5, q6, ne_eq, Bool.false_eq_true, Bool.true_eq_false, reduceCtorEq, if_true, if_false, or_false, false_or, or_true, true_or, and_true, true_and, and_false, false_and, not_true_eq_false, not_false_eq_true, or_self, ← Int32.not_le, shiT]; done)) hW⟩
    · refine aw_bipush (v := -2) (pcn := 21) dX6_move_19 rfl (by decide) ?_
      exact aw_iret dX6_move_21 rfl ⟨_, rfl, ret3 (by first | (simp only [moveT, hst, q5, Bool.false_eq_true, Bool.true_eq_false, reduceCtorEq, if_true, if_false, or_false, false_or, or_true, true_or, and_true, true_and, and_false, false_and, not_true_eq_false, not_false_eq_true, or_self, ← Int32.not_le, shiT]; done) | (rw [moveT_eq hS hc8 hc0 hst]; simp only [hst, q5, ne_eq, Bool.false_eq_true, Bool.true_eq_false, reduceCtorEq, if_true, if_false, or_false, false_or, or_true, true_or, and_true, true_and, and_false, false_and, not_true_eq_false, not_false_eq_true, or_self, ← Int32.not_le, shiT]; done)) hW⟩
