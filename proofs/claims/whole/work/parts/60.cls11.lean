/-! the class's face: states -/
theorem ret3 {Γ : NM} {ow : Nat → Nat × Nat} {h : Hp} {Tr : TB} {nh : Nat} {f : Int32 × TB} {r : Int32} {T' : TB} (e : f = (r, T')) (hW : WD Γ ow h T' Tr nh) : r = f.1 ∧ WD Γ ow h f.2 Tr nh := by
  subst e
  exact ⟨rfl, hW⟩
theorem Iv.ofm {i : Nat} {T : TB} {C n Z hN : Nat} (H : Iv i T C n Z hN) {S c : Nat} (hS : S < n) (hc : c < C) (hc0 : T 19 (35 * S + 0) = nI c) (p : Int32) : mbT T c p = isOfT T (nI S) p := by
  have := H.n64
  have := H.C8
  rw [isOfT_eq (by omega) hc0 (by omega), H.stOf hS, Bool.true_and]
theorem of_no {T : TB} {s : Int32} (h : isST T s = false) (p : Int32) : isOfT T s p = false := by
  unfold isOfT
  rw [h, Bool.false_and]
set_option maxHeartbeats 1600000 in
set_option maxRecDepth 20000 in
theorem c_a_change {X : XG} {l : Launch} {Γ : NM} {ow : Nat → Nat × Nat} {h : Hp} {T Tr : TB} {nh : Nat} (hW : WD Γ ow h T Tr nh) {i C n Z hN : Nat} (hI : Iv i T C n Z hN) (s f t v : Int32) : AM X l yX6_change cX6_change 6 (some .int) 3 0 0 [.ref (Γ 0 0), .int s, .int f, .int t, .int v] h (qi fun r h' => r = (changeT T s f t v).1 ∧ WD Γ ow h' (changeT T s f t v).2 Tr nh) := by
  refine AM.of (by decide +kernel) (by simp [Value.category]) (Nat.le_of_ble_eq_true rfl) ?_
  show AW X l cX6_change RX6 "change" (some .int) 6 3 none _ 0 0 0 [some (.ref (Γ 0 0)), some (.int s), some (.int f), some (.int t), some (.int v), none] [] h
  have h64 := hI.n64
  have h8 := hI.C8
  have h16 := hI.Z16
  have h4 := hI.h4
  refine aw_alo 0 (pcn := 1) rfl dX6_change_0 rfl rfl (rf_some _) ?_
  refine aw_ilo 1 (pcn := 2) rfl dX6_change_1 rfl rfl ?_
  refine aw_Vr (pcn := 5) (c_stateAt hW hI _) mf_X6_stateAt mv_X6_stateAt hW.sc rfl ml_X6_123 rfl (by decide) (by decide) (by decide) (by exact Nat.le_of_ble_eq_true rfl) rfl dX6_change_2 rfl (fun r h2 hq => ?_)
  obtain ⟨hq, hh⟩ := hq
  obtain rfl := hh.symm
  rcases hq with ⟨e0, rfl⟩ | ⟨S, c, hSn, hcC, hc0, rfl, hst, rfl⟩
  · have e1 : isOfT T s f = false := of_no e0 f
    refine aw_astore (pcn := 7) dX6_change_5 rfl (by decide) (rf_none) ?_
    dsimp only [List.set_cons_zero, List.set_cons_succ]
    refine aw_aload (pcn := 9) dX6_change_7 rfl rfl (rf_none) ?_
    refine aw_ifnull (t := 30) (pcn := 12) dX6_change_9 rfl (by decide) (rf_none) (fun q1 => ?_) (fun a2 q1 => by cases q1)
    clear q1
    refine aw_iconst (v := -1) (pcn := 31) dX6_change_30 rfl (by decide) ?_
    exact aw_iret dX6_change_31 rfl ⟨_, rfl, ret3 (by first | (simp only [changeT, e1, Bool.false_eq_true, Bool.true_eq_false, reduceCtorEq, if_true, if_false, or_false, false_or, or_true, true_or, and_true, true_and, and_false, false_and, not_true_eq_false, not_false_eq_true, or_self, ← Int32.not_le, shiT]; done) | (rw [changeT_eq hS hc8 hc0 hF hP (by assumption) (by assumption)]; simp only [e1, Bool.false_eq_true, Bool.true_eq_false, reduceCtorEq, if_true, if_false, or_false, false_or, or_true, true_or, and_true, true_and, and_false, false_and, not_true_eq_false, not_false_eq_true, or_self, ← Int32.not_le, shiT]; done) | (rw [changeT_eq hS hc8 hc0 hF hP (by assumption) (by assumption)]; simp only [e1, Bool.false_eq_true, Bool.true_eq_false, reduceCtorEq, if_true, if_false, or_false, false_or, or_true, true_or, and_true, true_and, and_false, false_and, not_true_eq_false, not_false_eq_true, or_self, ← Int32.not_le, shiT]; rfl) | (rw [changeT_eq hS hc8 hc0 hF hP (by assumption) (by assumption)]; rfl)) (hW)⟩
  · have hS : S < 64 := by omega
    have hc8 : c < 8 := by omega
    have vc := hI.vc hcC
    have vs := hI.vs hSn
    refine aw_astore (pcn := 7) dX6_change_5 rfl (by decide) (rf_some _) ?_
    dsimp only [List.set_cons_zero, List.set_cons_succ]
    refine aw_aload (pcn := 9) dX6_change_7 rfl rfl (rf_some _) ?_
    refine aw_ifnull (t := 30) (pcn := 12) dX6_change_9 rfl (by decide) (rf_some _) (fun q3 => by cases q3) (fun a4 q3 => ?_)
    clear q3 a4
    refine aw_aload (pcn := 14) dX6_change_12 rfl rfl (rf_some _) ?_
    refine aw_ilo 2 (pcn := 15) rfl dX6_change_14 rfl rfl ?_
    obtain ⟨gs, hs, hgs⟩ := hW.st (s := S) vs hc8 hc0
    refine aw_Vi (pcn := 18) (c_hasM hW hI hSn hcC hc0 _) mf_X4_hasMember mv_X4_hasMember hs rfl ml_X6_127 rfl (by decide) (by decide) (by decide) (by exact Nat.le_of_ble_eq_true rfl) rfl dX6_change_15 rfl (fun r h2 hq => ?_)
    obtain ⟨rfl, hq⟩ := hq
    obtain rfl := hq.symm
    rw [hI.ofm hSn hcC hc0]
    refine aw_if_eqB (t := 30) (pcn := 21) dX6_change_18 rfl (by decide) (fun q5 => ?_) (fun q5 => ?_)
    · refine aw_iconst (v := -1) (pcn := 31) dX6_change_30 rfl (by decide) ?_
      exact aw_iret dX6_change_31 rfl ⟨_, rfl, ret3 (by first | (simp only [changeT, hst, q5, Bool.false_eq_true, Bool.true_eq_false, reduceCtorEq, if_true, if_false, or_false, false_or, or_true, true_or, and_true, true_and, and_false, false_and, not_true_eq_false, not_false_eq_true, or_self, ← Int32.not_le, shiT]; done) | (rw [changeT_eq hS hc8 hc0 hF hP (by assumption) (by assumption)]; simp only [hst, q5, Bool.false_eq_true, Bool.true_eq_false, reduceCtorEq, if_true, if_false, or_false, false_or, or_true, true_or, and_true, true_and, and_false, false_and, not_true_eq_false, not_false_eq_true, or_self, ← Int32.not_le, shiT]; done) | (rw [changeT_eq hS hc8 hc0 hF hP (by assumption) (by assumption)]; simp only [hst, q5, Bool.false_eq_true, Bool.true_eq_false, reduceCtorEq, if_true, if_false, or_false, false_or, or_true, true_or, and_true, true_and, and_false, false_and, not_true_eq_false, not_false_eq_true, or_self, ← Int32.not_le, shiT]; rfl) | (rw [changeT_eq hS hc8 hc0 hF hP (by assumption) (by assumption)]; rfl)) (hW)⟩
    · obtain ⟨F, hF, rfl⟩ := Iv.oOfP q5
      refine aw_aload (pcn := 23) dX6_change_21 rfl rfl (rf_some _) ?_
      refine aw_ilo 3 (pcn := 24) rfl dX6_change_23 rfl rfl ?_
      obtain ⟨gs, hs, hgs⟩ := hW.st (s := S) vs hc8 hc0
      refine aw_Vi (pcn := 27) (c_hasM hW hI hSn hcC hc0 _) mf_X4_hasMember mv_X4_hasMember hs rfl ml_X6_127 rfl (by decide) (by decide) (by decide) (by exact Nat.le_of_ble_eq_true rfl) rfl dX6_change_24 rfl (fun r h2 hq => ?_)
      obtain ⟨rfl, hq⟩ := hq
      obtain rfl := hq.symm
      rw [hI.ofm hSn hcC hc0]
      refine aw_if_neB (t := 32) (pcn := 30) dX6_change_27 rfl (by decide) (fun q6 => ?_) (fun q6 => ?_)
      · obtain ⟨P, hP, rfl⟩ := Iv.oOfP q6
        refine aw_aload (pcn := 34) dX6_change_32 rfl rfl (rf_some _) ?_
        obtain ⟨gs, hs, hgs⟩ := hW.st (s := S) vs hc8 hc0
        refine aw_Vi (pcn := 37) (c_isFixed hW hI hSn hcC hc0) mf_X4_isFixed mv_X4_isFixed hs rfl ml_X6_128 rfl (by decide) (by decide) (by decide) (by exact Nat.le_of_ble_eq_true rfl) rfl dX6_change_34 rfl (fun r h2 hq => ?_)
        obtain ⟨rfl, hq⟩ := hq
        obtain rfl := hq.symm
        refine aw_if_eqB (t := 43) (pcn := 40) dX6_change_37 rfl (by decide) (fun q7 => ?_) (fun q7 => ?_)
        · refine aw_iload (pcn := 45) dX6_change_43 rfl rfl ?_
          refine aw_iconst (v := nI 1) (pcn := 46) dX6_change_45 rfl (by decide) ?_
          refine aw_ldc (pcn := 48) ct_X6_132 dX6_change_46 rfl ?_
          rw [show (60000 : Int32) = nI 60000 by decide]
          refine aw_Si (pcn := 51) (c_isWithin _ _ _) mf_X6_isWithin mv_X6_isWithin ml_X6_42 rfl (by decide) (by decide) (by decide) (by exact Nat.le_of_ble_eq_true rfl) rfl dX6_change_48 rfl (fun r h2 hq => ?_)
          obtain ⟨rfl, hq⟩ := hq
          obtain rfl := hq.symm
          refine aw_if_neB (t := 57) (pcn := 54) dX6_change_51 rfl (by decide) (fun q8 => ?_) (fun q8 => ?_)
          · refine aw_ilo 2 (pcn := 58) rfl dX6_change_57 rfl rfl ?_
            refine aw_ilo 3 (pcn := 59) rfl dX6_change_58 rfl rfl ?_
            refine aw_icmp_eq (t := 73) (pcn := 62) dX6_change_59 rfl (by decide) (fun q9 => ?_) (fun q9 => ?_)
            · refine aw_bipush (v := -4) (pcn := 75) dX6_change_73 rfl (by decide) ?_
              exact aw_iret dX6_change_75 rfl ⟨_, rfl, ret3 (by first | (simp only [changeT, hst, q5, q6, q7, q8, q9, Bool.false_eq_true, Bool.true_eq_false, reduceCtorEq, if_true, if_false, or_false, false_or, or_true, true_or, and_true, true_and, and_false, false_and, not_true_eq_false, not_false_eq_true, or_self, ← Int32.not_le, shiT]; done) | (rw [changeT_eq hS hc8 hc0 hF hP (by assumption) (by assumption)]; simp only [hst, q5, q6, q7, q8, q9, Bool.false_eq_true, Bool.true_eq_false, reduceCtorEq, if_true, if_false, or_false, false_or, or_true, true_or, and_true, true_and, and_false, false_and, not_true_eq_false, not_false_eq_true, or_self, ← Int32.not_le, shiT]; done) | (rw [changeT_eq hS hc8 hc0 hF hP (by assumption) (by assumption)]; simp only [hst, q5, q6, q7, q8, q9, Bool.false_eq_true, Bool.true_eq_false, reduceCtorEq, if_true, if_false, or_false, false_or, or_true, true_or, and_true, true_and, and_false, false_and, not_true_eq_false, not_false_eq_true, or_self, ← Int32.not_le, shiT]; rfl) | (rw [changeT_eq hS hc8 hc0 hF hP (by assumption) (by assumption)]; rfl)) (hW)⟩
            · refine aw_aload (pcn := 64) dX6_change_62 rfl rfl (rf_some _) ?_
              refine aw_ilo 2 (pcn := 65) rfl dX6_change_64 rfl rfl ?_
              obtain ⟨gs, hs, hgs⟩ := hW.st (s := S) vs hc8 hc0
              refine aw_Vi (pcn := 68) (c_freeOf hW hI hSn hcC hc0 (P := _) (by omega)) mf_X4_freeOf mv_X4_freeOf hs rfl ml_X6_133 rfl (by decide) (by decide) (by decide) (by exact Nat.le_of_ble_eq_true rfl) rfl dX6_change_65 rfl (fun r h2 hq => ?_)
              obtain ⟨rfl, hq⟩ := hq
              obtain rfl := hq.symm
              refine aw_iload (pcn := 70) dX6_change_68 rfl rfl ?_
              refine aw_icmp_ge (t := 76) (pcn := 73) dX6_change_70 rfl (by decide) (fun q10 => ?_) (fun q10 => ?_)
              · refine aw_aload (pcn := 78) dX6_change_76 rfl rfl (rf_some _) ?_
                obtain ⟨gs, hs, hgs⟩ := hW.st (s := S) vs hc8 hc0
                refine aw_getf (pcn := 81) fl_X6_80 dX6_change_78 rfl hs rfl ?_
                refine aw_ilo 2 (pcn := 82) rfl dX6_change_81 rfl rfl ?_
                refine aw_iload (pcn := 84) dX6_change_82 rfl rfl ?_
                refine aw_ineg (pcn := 85) dX6_change_84 rfl ?_
                obtain ⟨fs, hsh1, hsh2, hsh3⟩ := hW.sh (s := S) vs
                refine aw_Vv (pcn := 88) (c_add0 hsh1 hsh2 (P := F) (by omega) _) mf_X5_add mv_X5_add hsh1 rfl ml_X6_74 rfl (by decide) (by decide) (by decide) (by exact Nat.le_of_ble_eq_true rfl) rfl dX6_change_85 rfl (fun h hq => ?_)
                have hW := hW.shW (s := S) vs hsh3 (p := F) (by omega) (fs F + -v)
                rw [← hq] at hW
                clear hq
                rw [hsh3 F (by omega)] at hW
                have hc0' := hc0
                have hc0 : up T 19 (35 * S + 4 + F) (T 19 (35 * S + 4 + F) + -v) 19 (35 * S + 0) = nI c := by rw [up_i _ _ _ (by omega)]; exact hc0
                refine aw_aload (pcn := 90) dX6_change_88 rfl rfl (rf_some _) ?_
                obtain ⟨gs, hs, hgs⟩ := hW.st (s := S) vs hc8 hc0
                refine aw_getf (pcn := 93) fl_X6_80 dX6_change_90 rfl hs rfl ?_
                refine aw_ilo 3 (pcn := 94) rfl dX6_change_93 rfl rfl ?_
                refine aw_iload (pcn := 96) dX6_change_94 rfl rfl ?_
                obtain ⟨fs, hsh1, hsh2, hsh3⟩ := hW.sh (s := S) vs
                refine aw_Vv (pcn := 99) (c_add0 hsh1 hsh2 (P := P) (by omega) _) mf_X5_add mv_X5_add hsh1 rfl ml_X6_74 rfl (by decide) (by decide) (by decide) (by exact Nat.le_of_ble_eq_true rfl) rfl dX6_change_96 rfl (fun h hq => ?_)
                have hW := hW.shW (s := S) vs hsh3 (p := P) (by omega) (fs P + v)
                rw [← hq] at hW
                clear hq
                rw [hsh3 P (by omega)] at hW
                have hc0 : up (up T 19 (35 * S + 4 + F) (T 19 (35 * S + 4 + F) + -v)) 19 (35 * S + 4 + P) (up T 19 (35 * S + 4 + F) (T 19 (35 * S + 4 + F) + -v) 19 (35 * S + 4 + P) + v) 19 (35 * S + 0) = nI c := by rw [up_i _ _ _ (by omega)]; exact hc0
                refine aw_aload (pcn := 101) dX6_change_99 rfl rfl (rf_some _) ?_
                obtain ⟨gs, hs, hgs⟩ := hW.st (s := S) vs hc8 hc0
                refine aw_getf (pcn := 104) fl_X6_80 dX6_change_101 rfl hs rfl ?_
                refine aw_ilo 2 (pcn := 105) rfl dX6_change_104 rfl rfl ?_
                obtain ⟨fs, hsh1, hsh2, hsh3⟩ := hW.sh (s := S) vs
                refine aw_Vi (pcn := 108) (c_get0 hsh1 hsh2 _) mf_X5_get mv_X5_get hsh1 rfl ml_X6_110 rfl (by decide) (by decide) (by decide) (by exact Nat.le_of_ble_eq_true rfl) rfl dX6_change_105 rfl (fun r h2 hq => ?_)
                obtain ⟨rfl, hq⟩ := hq
                obtain rfl := hq.symm
                exact aw_iret dX6_change_108 rfl ⟨_, rfl, ret3 (by rw [changeT_eq hS hc8 hc0' hF hP (by assumption) (by assumption)]; simp only [hst, q5, q6, q7, q8, q9, q10, Bool.false_eq_true, Bool.true_eq_false, reduceCtorEq, if_true, if_false, or_false, false_or, or_true, true_or, and_true, true_and, and_false, false_and, not_true_eq_false, not_false_eq_true, or_self, ← Int32.not_le, shiT]; rw [sgT_nI hF, hsh3 F hF]; unfold chgT; rw [Int32.sub_eq_add_neg]) hW⟩
              · refine aw_bipush (v := -4) (pcn := 75) dX6_change_73 rfl (by decide) ?_
                exact aw_iret dX6_change_75 rfl ⟨_, rfl, ret3 (by first | (simp only [changeT, hst, q5, q6, q7, q8, q9, q10, Bool.false_eq_true, Bool.true_eq_false, reduceCtorEq, if_true, if_false, or_false, false_or, or_true, true_or, and_true, true_and, and_false, false_and, not_true_eq_false, not_false_eq_true, or_self, ← Int32.not_le, shiT]; done) | (rw [changeT_eq hS hc8 hc0 hF hP (by assumption) (by assumption)]; simp only [hst, q5, q6, q7, q8, q9, q10, Bool.false_eq_true, Bool.true_eq_false, reduceCtorEq, if_true, if_false, or_false, false_or, or_true, true_or, and_true, true_and, and_false, false_and, not_true_eq_false, not_false_eq_true, or_self, ← Int32.not_le, shiT]; done) | (rw [changeT_eq hS hc8 hc0 hF hP (by assumption) (by assumption)]; simp only [hst, q5, q6, q7, q8, q9, q10, Bool.false_eq_true, Bool.true_eq_false, reduceCtorEq, if_true, if_false, or_false, false_or, or_true, true_or, and_true, true_and, and_false, false_and, not_true_eq_false, not_false_eq_true, or_self, ← Int32.not_le, shiT]; rfl) | (rw [changeT_eq hS hc8 hc0 hF hP (by assumption) (by assumption)]; rfl)) (hW)⟩
          · refine aw_bipush (v := -3) (pcn := 56) dX6_change_54 rfl (by decide) ?_
            exact aw_iret dX6_change_56 rfl ⟨_, rfl, ret3 (by first | (simp only [changeT, hst, q5, q6, q7, q8, Bool.false_eq_true, Bool.true_eq_false, reduceCtorEq, if_true, if_false, or_false, false_or, or_true, true_or, and_true, true_and, and_false, false_and, not_true_eq_false, not_false_eq_true, or_self, ← Int32.not_le, shiT]; done) | (rw [changeT_eq hS hc8 hc0 hF hP (by assumption) (by assumption)]; simp only [hst, q5, q6, q7, q8, Bool.false_eq_true, Bool.true_eq_false, reduceCtorEq, if_true, if_false, or_false, false_or, or_true, true_or, and_true, true_and, and_false, false_and, not_true_eq_false, not_false_eq_true, or_self, ← Int32.not_le, shiT]; done) | (rw [changeT_eq hS hc8 hc0 hF hP (by assumption) (by assumption)]; simp only [hst, q5, q6, q7, q8, Bool.false_eq_true, Bool.true_eq_false, reduceCtorEq, if_true, if_false, or_false, false_or, or_true, true_or, and_true, true_and, and_false, false_and, not_true_eq_false, not_false_eq_true, or_self, ← Int32.not_le, shiT]; rfl) | (rw [changeT_eq hS hc8 hc0 hF hP (by assumption) (by assumption)]; rfl)) (hW)⟩
        · refine aw_bipush (v := -2) (pcn := 42) dX6_change_40 rfl (by decide) ?_
          exact aw_iret dX6_change_42 rfl ⟨_, rfl, ret3 (by first | (simp only [changeT, hst, q5, q6, q7, Bool.false_eq_true, Bool.true_eq_false, reduceCtorEq, if_true, if_false, or_false, false_or, or_true, true_or, and_true, true_and, and_false, false_and, not_true_eq_false, not_false_eq_true, or_self, ← Int32.not_le, shiT]; done) | (rw [changeT_eq hS hc8 hc0 hF hP (by assumption) (by assumption)]; simp only [hst, q5, q6, q7, Bool.false_eq_true, Bool.true_eq_false, reduceCtorEq, if_true, if_false, or_false, false_or, or_true, true_or, and_true, true_and, and_false, false_and, not_true_eq_false, not_false_eq_true, or_self, ← Int32.not_le, shiT]; done) | (rw [changeT_eq hS hc8 hc0 hF hP (by assumption) (by assumption)]; simp only [hst, q5, q6, q7, Bool.false_eq_true, Bool.true_eq_false, reduceCtorEq, if_true, if_false, or_false, false_or, or_true, true_or, and_true, true_and, and_false, false_and, not_true_eq_false, not_false_eq_true, or_self, ← Int32.not_le, shiT]; rfl) | (rw [changeT_eq hS hc8 hc0 hF hP (by assumption) (by assumption)]; rfl)) (hW)⟩
      · refine aw_iconst (v := -1) (pcn := 31) dX6_change_30 rfl (by decide) ?_
        exact aw_iret dX6_change_31 rfl ⟨_, rfl, ret3 (by first | (simp only [changeT, hst, q5, q6, Bool.false_eq_true, Bool.true_eq_false, reduceCtorEq, if_true, if_false, or_false, false_or, or_true, true_or, and_true, true_and, and_false, false_and, not_true_eq_false, not_false_eq_true, or_self, ← Int32.not_le, shiT]; done) | (rw [changeT_eq hS hc8 hc0 hF hP (by assumption) (by assumption)]; simp only [hst, q5, q6, Bool.false_eq_true, Bool.true_eq_false, reduceCtorEq, if_true, if_false, or_false, false_or, or_true, true_or, and_true, true_and, and_false, false_and, not_true_eq_false, not_false_eq_true, or_self, ← Int32.not_le, shiT]; done) | (rw [changeT_eq hS hc8 hc0 hF hP (by assumption) (by assumption)]; simp only [hst, q5, q6, Bool.false_eq_true, Bool.true_eq_false, reduceCtorEq, if_true, if_false, or_false, false_or, or_true, true_or, and_true, true_and, and_false, false_and, not_true_eq_false, not_false_eq_true, or_self, ← Int32.not_le, shiT]; rfl) | (rw [changeT_eq hS hc8 hc0 hF hP (by assumption) (by assumption)]; rfl)) (hW)⟩

set_option maxHeartbeats 1600000 in
set_option maxRecDepth 20000 in
theorem c_a_out {X : XG} {l : Launch} {Γ : NM} {ow : Nat → Nat × Nat} {h : Hp} {T Tr : TB} {nh : Nat} (hW : WD Γ ow h T Tr nh) {i C n Z hN : Nat} (hI : Iv i T C n Z hN) (s f v : Int32) : AM X l yX6_out cX6_out 6 (some .int) 3 0 0 [.ref (Γ 0 0), .int s, .int f, .int v] h (qi fun r h' => r = (outsT T s f v).1 ∧ WD Γ ow h' (outsT T s f v).2 Tr nh) := by
  refine AM.of (by decide +kernel) (by simp [Value.category]) (Nat.le_of_ble_eq_true rfl) ?_
  show AW X l cX6_out RX6 "out" (some .int) 6 3 none _ 0 0 0 [some (.ref (Γ 0 0)), some (.int s), some (.int f), some (.int v), none, none] [] h
  have h64 := hI.n64
  have h8 := hI.C8
  have h16 := hI.Z16
  have h4 := hI.h4
  refine aw_alo 0 (pcn := 1) rfl dX6_out_0 rfl rfl (rf_some _) ?_
  refine aw_ilo 1 (pcn := 2) rfl dX6_out_1 rfl rfl ?_
  refine aw_Vr (pcn := 5) (c_stateAt hW hI _) mf_X6_stateAt mv_X6_stateAt hW.sc rfl ml_X6_123 rfl (by decide) (by decide) (by decide) (by exact Nat.le_of_ble_eq_true rfl) rfl dX6_out_2 rfl (fun r h2 hq => ?_)
  obtain ⟨hq, hh⟩ := hq
  obtain rfl := hh.symm
  rcases hq with ⟨e0, rfl⟩ | ⟨S, c, hSn, hcC, hc0, rfl, hst, rfl⟩
  · have e1 : isOfT T s f = false := of_no e0 f
    refine aw_astore (pcn := 7) dX6_out_5 rfl (by decide) (rf_none) ?_
    dsimp only [List.set_cons_zero, List.set_cons_succ]
    refine aw_aload (pcn := 9) dX6_out_7 rfl rfl (rf_none) ?_
    refine aw_ifnull (t := 21) (pcn := 12) dX6_out_9 rfl (by decide) (rf_none) (fun q1 => ?_) (fun a2 q1 => by cases q1)
    clear q1
    refine aw_iconst (v := -1) (pcn := 22) dX6_out_21 rfl (by decide) ?_
    exact aw_iret dX6_out_22 rfl ⟨_, rfl, ret3 (by first | (simp only [outsT, e1, Bool.false_eq_true, Bool.true_eq_false, reduceCtorEq, if_true, if_false, or_false, false_or, or_true, true_or, and_true, true_and, and_false, false_and, not_true_eq_false, not_false_eq_true, or_self, ← Int32.not_le, shiT]; done) | (rw [outsT_eq hS hc8 hc0 hF (by assumption)]; simp only [e1, Bool.false_eq_true, Bool.true_eq_false, reduceCtorEq, if_true, if_false, or_false, false_or, or_true, true_or, and_true, true_and, and_false, false_and, not_true_eq_false, not_false_eq_true, or_self, ← Int32.not_le, shiT]; done) | (rw [outsT_eq hS hc8 hc0 hF (by assumption)]; simp only [e1, Bool.false_eq_true, Bool.true_eq_false, reduceCtorEq, if_true, if_false, or_false, false_or, or_true, true_or, and_true, true_and, and_false, false_and, not_true_eq_false, not_false_eq_true, or_self, ← Int32.not_le, shiT]; rfl) | (rw [outsT_eq hS hc8 hc0 hF (by assumption)]; rfl)) (hW)⟩
  · have hS : S < 64 := by omega
    have hc8 : c < 8 := by omega
    have vc := hI.vc hcC
    have vs := hI.vs hSn
    refine aw_astore (pcn := 7) dX6_out_5 rfl (by decide) (rf_some _) ?_
    dsimp only [List.set_cons_zero, List.set_cons_succ]
    refine aw_aload (pcn := 9) dX6_out_7 rfl rfl (rf_some _) ?_
    refine aw_ifnull (t := 21) (pcn := 12) dX6_out_9 rfl (by decide) (rf_some _) (fun q3 => by cases q3) (fun a4 q3 => ?_)
    clear q3 a4
    refine aw_aload (pcn := 14) dX6_out_12 rfl rfl (rf_some _) ?_
    refine aw_ilo 2 (pcn := 15) rfl dX6_out_14 rfl rfl ?_
    obtain ⟨gs, hs, hgs⟩ := hW.st (s := S) vs hc8 hc0
    refine aw_Vi (pcn := 18) (c_hasM hW hI hSn hcC hc0 _) mf_X4_hasMember mv_X4_hasMember hs rfl ml_X6_127 rfl (by decide) (by decide) (by decide) (by exact Nat.le_of_ble_eq_true rfl) rfl dX6_out_15 rfl (fun r h2 hq => ?_)
    obtain ⟨rfl, hq⟩ := hq
    obtain rfl := hq.symm
    rw [hI.ofm hSn hcC hc0]
    refine aw_if_neB (t := 23) (pcn := 21) dX6_out_18 rfl (by decide) (fun q5 => ?_) (fun q5 => ?_)
    · obtain ⟨F, hF, rfl⟩ := Iv.oOfP q5
      refine aw_aload (pcn := 25) dX6_out_23 rfl rfl (rf_some _) ?_
      obtain ⟨gs, hs, hgs⟩ := hW.st (s := S) vs hc8 hc0
      refine aw_Vi (pcn := 28) (c_isFixed hW hI hSn hcC hc0) mf_X4_isFixed mv_X4_isFixed hs rfl ml_X6_128 rfl (by decide) (by decide) (by decide) (by exact Nat.le_of_ble_eq_true rfl) rfl dX6_out_25 rfl (fun r h2 hq => ?_)
      obtain ⟨rfl, hq⟩ := hq
      obtain rfl := hq.symm
      refine aw_if_eqB (t := 34) (pcn := 31) dX6_out_28 rfl (by decide) (fun q6 => ?_) (fun q6 => ?_)
      · refine aw_ilo 3 (pcn := 35) rfl dX6_out_34 rfl rfl ?_
        refine aw_iconst (v := nI 0) (pcn := 36) dX6_out_35 rfl (by decide) ?_
        refine aw_ldc (pcn := 38) ct_X6_132 dX6_out_36 rfl ?_
        rw [show (60000 : Int32) = nI 60000 by decide]
        refine aw_Si (pcn := 41) (c_isWithin _ _ _) mf_X6_isWithin mv_X6_isWithin ml_X6_42 rfl (by decide) (by decide) (by decide) (by exact Nat.le_of_ble_eq_true rfl) rfl dX6_out_38 rfl (fun r h2 hq => ?_)
        obtain ⟨rfl, hq⟩ := hq
        obtain rfl := hq.symm
        refine aw_if_neB (t := 47) (pcn := 44) dX6_out_41 rfl (by decide) (fun q7 => ?_) (fun q7 => ?_)
        · refine aw_aload (pcn := 49) dX6_out_47 rfl rfl (rf_some _) ?_
          obtain ⟨gs, hs, hgs⟩ := hW.st (s := S) vs hc8 hc0
          refine aw_getf (pcn := 52) fl_X6_80 dX6_out_49 rfl hs rfl ?_
          refine aw_ilo 2 (pcn := 53) rfl dX6_out_52 rfl rfl ?_
          obtain ⟨fs, hsh1, hsh2, hsh3⟩ := hW.sh (s := S) vs
          refine aw_Vi (pcn := 56) (c_get0 hsh1 hsh2 _) mf_X5_get mv_X5_get hsh1 rfl ml_X6_110 rfl (by decide) (by decide) (by decide) (by exact Nat.le_of_ble_eq_true rfl) rfl dX6_out_53 rfl (fun r h2 hq => ?_)
          obtain ⟨rfl, hq⟩ := hq
          obtain rfl := hq.symm
          rw [sgT_nI hF, hsh3 F hF]
          refine aw_ilo 3 (pcn := 57) rfl dX6_out_56 rfl rfl ?_
          refine aw_icmp_ge (t := 63) (pcn := 60) dX6_out_57 rfl (by decide) (fun q8 => ?_) (fun q8 => ?_)
          · refine aw_aload (pcn := 65) dX6_out_63 rfl rfl (rf_some _) ?_
            obtain ⟨gs, hs, hgs⟩ := hW.st (s := S) vs hc8 hc0
            refine aw_getf (pcn := 68) fl_X6_192 dX6_out_65 rfl hs rfl ?_
            refine aw_ilo 2 (pcn := 69) rfl dX6_out_68 rfl rfl ?_
            obtain ⟨fo, hou1, hou2, hou3⟩ := hW.ou (s := S) vs
            refine aw_Vi (pcn := 72) (c_get0 hou1 hou2 _) mf_X5_get mv_X5_get hou1 rfl ml_X6_110 rfl (by decide) (by decide) (by decide) (by exact Nat.le_of_ble_eq_true rfl) rfl dX6_out_69 rfl (fun r h2 hq => ?_)
            obtain ⟨rfl, hq⟩ := hq
            obtain rfl := hq.symm
            rw [sgT_nI hF, hou3 F hF]
            refine aw_istore (pcn := 74) dX6_out_72 rfl (by decide) ?_
            dsimp only [List.set_cons_zero, List.set_cons_succ]
            refine aw_aload (pcn := 76) dX6_out_74 rfl rfl (rf_some _) ?_
            obtain ⟨gs, hs, hgs⟩ := hW.st (s := S) vs hc8 hc0
            refine aw_getf (pcn := 79) fl_X6_192 dX6_out_76 rfl hs rfl ?_
            refine aw_ilo 2 (pcn := 80) rfl dX6_out_79 rfl rfl ?_
            refine aw_ilo 3 (pcn := 81) rfl dX6_out_80 rfl rfl ?_
            obtain ⟨fo, hou1, hou2, hou3⟩ := hW.ou (s := S) vs
            refine aw_Vv (pcn := 84) (c_put0 hou1 hou2 hF v) mf_X5_put mv_X5_put hou1 rfl ml_X6_38 rfl (by decide) (by decide) (by decide) (by exact Nat.le_of_ble_eq_true rfl) rfl dX6_out_81 rfl (fun h hq => ?_)
            have hW := hW.ouW (s := S) vs hou3 hF v
            rw [← hq] at hW
            clear hq
            refine aw_iload (pcn := 86) dX6_out_84 rfl rfl ?_
            exact aw_iret dX6_out_86 rfl ⟨_, rfl, ret3 (by first | (simp only [outsT, hst, q5, q6, q7, q8, Bool.false_eq_true, Bool.true_eq_false, reduceCtorEq, if_true, if_false, or_false, false_or, or_true, true_or, and_true, true_and, and_false, false_and, not_true_eq_false, not_false_eq_true, or_self, ← Int32.not_le, shiT]; done) | (rw [outsT_eq hS hc8 hc0 hF (by assumption)]; simp only [hst, q5, q6, q7, q8, Bool.false_eq_true, Bool.true_eq_false, reduceCtorEq, if_true, if_false, or_false, false_or, or_true, true_or, and_true, true_and, and_false, false_and, not_true_eq_false, not_false_eq_true, or_self, ← Int32.not_le, shiT]; done) | (rw [outsT_eq hS hc8 hc0 hF (by assumption)]; simp only [hst, q5, q6, q7, q8, Bool.false_eq_true, Bool.true_eq_false, reduceCtorEq, if_true, if_false, or_false, false_or, or_true, true_or, and_true, true_and, and_false, false_and, not_true_eq_false, not_false_eq_true, or_self, ← Int32.not_le, shiT]; rfl) | (rw [outsT_eq hS hc8 hc0 hF (by assumption)]; rfl)) (hW)⟩
          · refine aw_bipush (v := -4) (pcn := 62) dX6_out_60 rfl (by decide) ?_
            exact aw_iret dX6_out_62 rfl ⟨_, rfl, ret3 (by first | (simp only [outsT, hst, q5, q6, q7, q8, Bool.false_eq_true, Bool.true_eq_false, reduceCtorEq, if_true, if_false, or_false, false_or, or_true, true_or, and_true, true_and, and_false, false_and, not_true_eq_false, not_false_eq_true, or_self, ← Int32.not_le, shiT]; done) | (rw [outsT_eq hS hc8 hc0 hF (by assumption)]; simp only [hst, q5, q6, q7, q8, Bool.false_eq_true, Bool.true_eq_false, reduceCtorEq, if_true, if_false, or_false, false_or, or_true, true_or, and_true, true_and, and_false, false_and, not_true_eq_false, not_false_eq_true, or_self, ← Int32.not_le, shiT]; done) | (rw [outsT_eq hS hc8 hc0 hF (by assumption)]; simp only [hst, q5, q6, q7, q8, Bool.false_eq_true, Bool.true_eq_false, reduceCtorEq, if_true, if_false, or_false, false_or, or_true, true_or, and_true, true_and, and_false, false_and, not_true_eq_false, not_false_eq_true, or_self, ← Int32.not_le, shiT]; rfl) | (rw [outsT_eq hS hc8 hc0 hF (by assumption)]; rfl)) (hW)⟩
        · refine aw_bipush (v := -3) (pcn := 46) dX6_out_44 rfl (by decide) ?_
          exact aw_iret dX6_out_46 rfl ⟨_, rfl, ret3 (by first | (simp only [outsT, hst, q5, q6, q7, Bool.false_eq_true, Bool.true_eq_false, reduceCtorEq, if_true, if_false, or_false, false_or, or_true, true_or, and_true, true_and, and_false, false_and, not_true_eq_false, not_false_eq_true, or_self, ← Int32.not_le, shiT]; done) | (rw [outsT_eq hS hc8 hc0 hF (by assumption)]; simp only [hst, q5, q6, q7, Bool.false_eq_true, Bool.true_eq_false, reduceCtorEq, if_true, if_false, or_false, false_or, or_true, true_or, and_true, true_and, and_false, false_and, not_true_eq_false, not_false_eq_true, or_self, ← Int32.not_le, shiT]; done) | (rw [outsT_eq hS hc8 hc0 hF (by assumption)]; simp only [hst, q5, q6, q7, Bool.false_eq_true, Bool.true_eq_false, reduceCtorEq, if_true, if_false, or_false, false_or, or_true, true_or, and_true, true_and, and_false, false_and, not_true_eq_false, not_false_eq_true, or_self, ← Int32.not_le, shiT]; rfl) | (rw [outsT_eq hS hc8 hc0 hF (by assumption)]; rfl)) (hW)⟩
      · refine aw_bipush (v := -2) (pcn := 33) dX6_out_31 rfl (by decide) ?_
        exact aw_iret dX6_out_33 rfl ⟨_, rfl, ret3 (by first | (simp only [outsT, hst, q5, q6, Bool.false_eq_true, Bool.true_eq_false, reduceCtorEq, if_true, if_false, or_false, false_or, or_true, true_or, and_true, true_and, and_false, false_and, not_true_eq_false, not_false_eq_true, or_self, ← Int32.not_le, shiT]; done) | (rw [outsT_eq hS hc8 hc0 hF (by assumption)]; simp only [hst, q5, q6, Bool.false_eq_true, Bool.true_eq_false, reduceCtorEq, if_true, if_false, or_false, false_or, or_true, true_or, and_true, true_and, and_false, false_and, not_true_eq_false, not_false_eq_true, or_self, ← Int32.not_le, shiT]; done) | (rw [outsT_eq hS hc8 hc0 hF (by assumption)]; simp only [hst, q5, q6, Bool.false_eq_true, Bool.true_eq_false, reduceCtorEq, if_true, if_false, or_false, false_or, or_true, true_or, and_true, true_and, and_false, false_and, not_true_eq_false, not_false_eq_true, or_self, ← Int32.not_le, shiT]; rfl) | (rw [outsT_eq hS hc8 hc0 hF (by assumption)]; rfl)) (hW)⟩
    · refine aw_iconst (v := -1) (pcn := 22) dX6_out_21 rfl (by decide) ?_
      exact aw_iret dX6_out_22 rfl ⟨_, rfl, ret3 (by first | (simp only [outsT, hst, q5, Bool.false_eq_true, Bool.true_eq_false, reduceCtorEq, if_true, if_false, or_false, false_or, or_true, true_or, and_true, true_and, and_false, false_and, not_true_eq_false, not_false_eq_true, or_self, ← Int32.not_le, shiT]; done) | (rw [outsT_eq hS hc8 hc0 hF (by assumption)]; simp only [hst, q5, Bool.false_eq_true, Bool.true_eq_false, reduceCtorEq, if_true, if_false, or_false, false_or, or_true, true_or, and_true, true_and, and_false, false_and, not_true_eq_false, not_false_eq_true, or_self, ← Int32.not_le, shiT]; done) | (rw [outsT_eq hS hc8 hc0 hF (by assumption)]; simp only [hst, q5, Bool.false_eq_true, Bool.true_eq_false, reduceCtorEq, if_true, if_false, or_false, false_or, or_true, true_or, and_true, true_and, and_false, false_and, not_true_eq_false, not_false_eq_true, or_self, ← Int32.not_le, shiT]; rfl) | (rw [outsT_eq hS hc8 hc0 hF (by assumption)]; rfl)) (hW)⟩

theorem rk_le {T : TB} {c n : Nat} (hn : n ≤ 64) : ∃ k, k ≤ n ∧ rkT T c n = nI k := by
  induction n with
  | zero => exact ⟨0, by omega, rfl⟩
  | succ n ih =>
    obtain ⟨k, h1, h2⟩ := ih (by omega)
    rw [rk_succ, h2]
    split
    · exact ⟨k + 1, by omega, by rw [nI_add]⟩
    · exact ⟨k, by omega, by rw [nI_add]; rfl⟩
theorem rk_lt {T : TB} {c s m : Nat} (hsm : s < m) (hm : m ≤ 64) (hc : T 19 (35 * s + 0) = nI c) : rkT T c s < rkT T c m := by
  have key : ∀ m, s < m → m ≤ 64 → ∃ a b, a < b ∧ b ≤ 64 ∧ rkT T c s = nI a ∧ rkT T c m = nI b := fun m => by
    induction m with
    | zero => intro h; omega
    | succ m ih =>
      intro h h64
      by_cases e : s = m
      · subst e
        obtain ⟨k, h1, h2⟩ := rk_le (T := T) (c := c) (n := s) (by omega)
        exact ⟨k, k + 1, by omega, by omega, h2, by rw [rk_succ, if_pos hc, h2, nI_add]⟩
      · obtain ⟨a, b, h1, h2, h3, h4⟩ := ih (by omega) (by omega)
        obtain ⟨k, k1, k2⟩ := rk_le (T := T) (c := c) (n := m + 1) h64
        rw [rk_succ, h4] at k2
        split at k2
        · exact ⟨a, b + 1, by omega, by
            rw [nI_add] at k2
            rw [nI_eq (by omega) (by omega)] at k2
            omega, h3, by rw [rk_succ, h4]; rw [if_pos (by assumption), nI_add]⟩
        · exact ⟨a, b, h1, h2, h3, by rw [rk_succ, h4, if_neg (by assumption), nI_add]; rfl⟩
  obtain ⟨a, b, h1, h2, h3, h4⟩ := key m hsm hm
  rw [h3, h4]
  exact nI_lt h1 (by omega)
/-- the class's newest is the reference's, after a signature -/
theorem ns_eq {i : Nat} {T : TB} {C n Z hN S c P : Nat} (H : Iv i T C n Z hN) (hS : S < n) (hc : c < C) (hc0 : T 19 (35 * S + 0) = nI c) (h9 : ¬ T 9 c = nI 3) (hm : mbT T c (nI P) = true) (hb : hasB (T 19 (35 * S + 2)) (nI P) = false) : nsV (sgn0 T S P) c S = nwT (sgn0 T S P) c n := by
  have h64 := H.n64
  have h8 := H.C8
  obtain ⟨h25, s0, h1, h2⟩ := (H.ch hc).2.2.2.2.2.2.2.1 h9
  obtain ⟨_, h3, h4⟩ := nwT_ch (by omega) (by omega) h2
  have hne : s0 ≠ S := fun e => by
    subst e
    rw [(cnt_sg h4).1] at hb
    unfold mbT at hm
    rw [hb, Bool.and_false] at hm
    cases hm
  have o : ∀ x, x ≠ 35 * S + 2 → sgn0 T S P 19 x = T 19 x := fun x hx => up_i _ _ _ hx
  have oc : ∀ s, s ≠ S → cnt (sgn0 T S P) c s = cnt T c s := fun s hs => cnt_congr (by rw [show sgn0 T S P 9 c = T 9 c from rfl]) rfl (fun _ => rfl) (fun x g1 g2 => o x (by omega))
  have e25 : sgn0 T S P 25 c = nI s0 := h25.trans h2
  have r : ∀ s, s < n → T 19 (35 * s + 0) = nI c → T 19 (35 * s + 1) = rkT T c s := fun s hs hsc => by
    obtain ⟨d, d1, d2, d3, _⟩ := H.sr hs
    rw [hsc, nI_eq (by omega) (by omega)] at d2
    rw [d2]; exact d3
  have hab := nwT_ab h64 (by omega) h2
  unfold nsV
  rw [e25, ix_nI (by omega), o (35 * s0 + 1) (by omega), o (35 * S + 1) (by omega), r s0 h1 h3, r S hS hc0]
  have s0c : cnt (sgn0 T S P) c s0 = true := by rw [oc s0 hne]; exact h4
  by_cases e : cnt (sgn0 T S P) c S = true
  · by_cases lt : s0 < S
    · rw [if_pos ⟨e, rk_lt lt (by omega) h3⟩]
      refine (nwT_is hS (by rw [o _ (by omega)]; exact hc0) e (fun s' g1 g2 g3 => ?_)).symm
      rw [oc s' (by omega)]
      exact hab s' (by omega) g2 (by rw [← g3, o _ (by omega)])
    · have gt : S < s0 := by omega
      rw [if_neg (c := cnt (sgn0 T S P) c S = true ∧ rkT T c s0 < rkT T c S) (fun q => Int32.lt_irrefl (Int32.lt_trans q.2 (rk_lt gt (by omega) hc0)))]
      refine (nwT_is h1 (by rw [o _ (by omega)]; exact h3) s0c (fun s' g1 g2 g3 => ?_)).symm
      rw [oc s' (by omega)]
      exact hab s' g1 g2 (by rw [← g3, o _ (by omega)])
  · rw [if_neg (fun q => e q.1)]
    refine (nwT_is h1 (by rw [o _ (by omega)]; exact h3) s0c (fun s' g1 g2 g3 => ?_)).symm
    by_cases e2 : s' = S
    · subst e2
      cases ec : cnt (sgn0 T s' P) c s' with
      | false => rfl
      | true => exact absurd ec e
    · rw [oc s' e2]
      exact hab s' g1 g2 (by rw [← g3, o _ (by omega)])
set_option maxHeartbeats 1600000 in
set_option maxRecDepth 20000 in
theorem c_a_sign {X : XG} {l : Launch} {Γ : NM} {ow : Nat → Nat × Nat} {h : Hp} {T Tr : TB} {nh : Nat} (hW : WD Γ ow h T Tr nh) {i C n Z hN : Nat} (hI : Iv i T C n Z hN) (s f : Int32) : AM X l yX6_sign cX6_sign 4 (some .int) 4 0 0 [.ref (Γ 0 0), .int s, .int f] h (qi fun r h' => r = (signT T n s f).1 ∧ WD Γ ow h' (signT T n s f).2 Tr nh) := by
  refine AM.of (by decide +kernel) (by simp [Value.category]) (Nat.le_of_ble_eq_true rfl) ?_
  show AW X l cX6_sign RX6 "sign" (some .int) 4 4 none _ 0 0 0 [some (.ref (Γ 0 0)), some (.int s), some (.int f), none] [] h
  have h64 := hI.n64
  have h8 := hI.C8
  have h16 := hI.Z16
  have h4 := hI.h4
  refine aw_alo 0 (pcn := 1) rfl dX6_sign_0 rfl rfl (rf_some _) ?_
  refine aw_ilo 1 (pcn := 2) rfl dX6_sign_1 rfl rfl ?_
  refine aw_Vr (pcn := 5) (c_stateAt hW hI _) mf_X6_stateAt mv_X6_stateAt hW.sc rfl ml_X6_123 rfl (by decide) (by decide) (by decide) (by exact Nat.le_of_ble_eq_true rfl) rfl dX6_sign_2 rfl (fun r h2 hq => ?_)
  obtain ⟨hq, hh⟩ := hq
  obtain rfl := hh.symm
  rcases hq with ⟨e0, rfl⟩ | ⟨S, c, hSn, hcC, hc0, rfl, hst, rfl⟩
  · have e1 : isOfT T s f = false := of_no e0 f
    refine aw_ast 3 (pcn := 6) rfl dX6_sign_5 rfl (by decide) (rf_none) ?_
    dsimp only [List.set_cons_zero, List.set_cons_succ]
    refine aw_alo 3 (pcn := 7) rfl dX6_sign_6 rfl rfl (rf_none) ?_
    refine aw_ifnull (t := 18) (pcn := 10) dX6_sign_7 rfl (by decide) (rf_none) (fun q1 => ?_) (fun a2 q1 => by cases q1)
    clear q1
    refine aw_iconst (v := -1) (pcn := 19) dX6_sign_18 rfl (by decide) ?_
    exact aw_iret dX6_sign_19 rfl ⟨_, rfl, ret3 (by first | (simp only [signT, e1, Bool.false_eq_true, Bool.true_eq_false, reduceCtorEq, if_true, if_false, or_false, false_or, or_true, true_or, and_true, true_and, and_false, false_and, not_true_eq_false, not_false_eq_true, or_self, ← Int32.not_le, shiT]; done) | (rw [signT_eq hS hc8 hc0 hF (by assumption)]; simp only [e1, Bool.false_eq_true, Bool.true_eq_false, reduceCtorEq, if_true, if_false, or_false, false_or, or_true, true_or, and_true, true_and, and_false, false_and, not_true_eq_false, not_false_eq_true, or_self, ← Int32.not_le, shiT]; done) | (rw [signT_eq hS hc8 hc0 hF (by assumption)]; simp only [e1, Bool.false_eq_true, Bool.true_eq_false, reduceCtorEq, if_true, if_false, or_false, false_or, or_true, true_or, and_true, true_and, and_false, false_and, not_true_eq_false, not_false_eq_true, or_self, ← Int32.not_le, shiT]; rfl) | (rw [signT_eq hS hc8 hc0 hF (by assumption)]; rfl)) hW⟩
  · have hS : S < 64 := by omega
    have hc8 : c < 8 := by omega
    have vc := hI.vc hcC
    have vs := hI.vs hSn
    refine aw_ast 3 (pcn := 6) rfl dX6_sign_5 rfl (by decide) (rf_some _) ?_
    dsimp only [List.set_cons_zero, List.set_cons_succ]
    refine aw_alo 3 (pcn := 7) rfl dX6_sign_6 rfl rfl (rf_some _) ?_
    refine aw_ifnull (t := 18) (pcn := 10) dX6_sign_7 rfl (by decide) (rf_some _) (fun q3 => by cases q3) (fun a4 q3 => ?_)
    clear q3 a4
    refine aw_alo 3 (pcn := 11) rfl dX6_sign_10 rfl rfl (rf_some _) ?_
    refine aw_ilo 2 (pcn := 12) rfl dX6_sign_11 rfl rfl ?_
    obtain ⟨gs, hs, hgs⟩ := hW.st (s := S) vs hc8 hc0
    refine aw_Vi (pcn := 15) (c_hasM hW hI hSn hcC hc0 _) mf_X4_hasMember mv_X4_hasMember hs rfl ml_X6_127 rfl (by decide) (by decide) (by decide) (by exact Nat.le_of_ble_eq_true rfl) rfl dX6_sign_12 rfl (fun r h2 hq => ?_)
    obtain ⟨rfl, hq⟩ := hq
    obtain rfl := hq.symm
    rw [hI.ofm hSn hcC hc0]
    refine aw_if_neB (t := 20) (pcn := 18) dX6_sign_15 rfl (by decide) (fun q5 => ?_) (fun q5 => ?_)
    · obtain ⟨F, hF, rfl⟩ := Iv.oOfP q5
      refine aw_alo 3 (pcn := 21) rfl dX6_sign_20 rfl rfl (rf_some _) ?_
      obtain ⟨gs, hs, hgs⟩ := hW.st (s := S) vs hc8 hc0
      refine aw_getf (pcn := 24) fl_X6_195 dX6_sign_21 rfl hs rfl ?_
      obtain ⟨g, hc, hg⟩ := hW.ch (c := c) vc
      refine aw_getf (pcn := 27) fl_X6_97 dX6_sign_24 rfl hc rfl ?_
      refine aw_iconst (v := nI 3) (pcn := 28) dX6_sign_27 rfl (by decide) ?_
      refine aw_icmp_ne (t := 34) (pcn := 31) dX6_sign_28 rfl (by decide) (fun q6 => ?_) (fun q6 => ?_)
      · refine aw_alo 3 (pcn := 35) rfl dX6_sign_34 rfl rfl (rf_some _) ?_
        obtain ⟨gs, hs, hgs⟩ := hW.st (s := S) vs hc8 hc0
        refine aw_getf (pcn := 38) fl_X6_83 dX6_sign_35 rfl hs rfl ?_
        refine aw_ilo 2 (pcn := 39) rfl dX6_sign_38 rfl rfl ?_
        refine aw_Si (pcn := 42) (c_isIn _ _) mf_X6_isIn mv_X6_isIn ml_X6_107 rfl (by decide) (by decide) (by decide) (by exact Nat.le_of_ble_eq_true rfl) rfl dX6_sign_39 rfl (fun r h2 hq => ?_)
        obtain ⟨rfl, hq⟩ := hq
        obtain rfl := hq.symm
        rw [inB_has (hI.st hSn).1 hF]
        refine aw_if_eqB (t := 48) (pcn := 45) dX6_sign_42 rfl (by decide) (fun q7 => ?_) (fun q7 => ?_)
        · refine aw_alo 3 (pcn := 49) rfl dX6_sign_48 rfl rfl (rf_some _) ?_
          refine aw_dup (pcn := 50) dX6_sign_49 rfl rfl ?_
          obtain ⟨gs, hs, hgs⟩ := hW.st (s := S) vs hc8 hc0
          refine aw_getf (pcn := 53) fl_X6_83 dX6_sign_50 rfl hs rfl ?_
          refine aw_iconst (v := nI 1) (pcn := 54) dX6_sign_53 rfl (by decide) ?_
          refine aw_ilo 2 (pcn := 55) rfl dX6_sign_54 rfl rfl ?_
          refine aw_ishl (pcn := 56) dX6_sign_55 rfl ?_
          refine aw_ior (pcn := 57) dX6_sign_56 rfl ?_
          obtain ⟨hsk, hse⟩ := addB (hI.st hSn).1 hF q7
          rw [show T 19 (35 * S + 2) ||| nI 1 <<< (nI F &&& 31) = T 19 (35 * S + 2) + shiT F from hse.symm]
          refine aw_putS (pcn := 60) hW vs hs fp_X6_83 (by decide) (VF.i _) (ss_7 _ _ _ _ _ _) (hW.stW vs hc8 hc0 hgs (j := 2) (by decide)) dX6_sign_57 rfl (fun h hW hk => ?_)
          have hc0' : sgn0 T S F 19 (35 * S + 0) = nI c := by unfold sgn0; rw [up_i _ _ _ (by omega)]; exact hc0
          have hW : WD Γ ow h (sgn0 T S F) Tr nh := hW
          obtain ⟨h25, s0, hs01, hs02⟩ := (hI.ch hcC).2.2.2.2.2.2.2.1 q6
          have hc0o := hc0
          have hc0 := hc0'
          refine aw_alo 3 (pcn := 61) rfl dX6_sign_60 rfl rfl (rf_some _) ?_
          obtain ⟨gs, hs, hgs⟩ := hW.st (s := S) vs hc8 hc0
          refine aw_getf (pcn := 64) fl_X6_195 dX6_sign_61 rfl hs rfl ?_
          refine aw_alo 3 (pcn := 65) rfl dX6_sign_64 rfl rfl (rf_some _) ?_
          obtain ⟨g, hc, hg⟩ := hW.ch (c := c) vc
          refine aw_Vv (pcn := 68) (c_noteSigned hW (S := S) (c := c) hS vs hc8 vc hc0 (s0 := s0) (by omega) (hI.vs hs01) (h25.trans hs02)) mf_X0_noteSigned mv_X0_noteSigned hc rfl ml_X6_199 rfl (by decide) (by decide) (by decide) (by exact Nat.le_of_ble_eq_true rfl) rfl dX6_sign_65 rfl (fun h hW => ?_)
          have hc0 : up (sgn0 T S F) 25 c (nsV (sgn0 T S F) c S) 19 (35 * S + 0) = nI c := hc0
          refine aw_alo 3 (pcn := 69) rfl dX6_sign_68 rfl rfl (rf_some _) ?_
          obtain ⟨gs, hs, hgs⟩ := hW.st (s := S) vs hc8 hc0
          refine aw_getf (pcn := 72) fl_X6_83 dX6_sign_69 rfl hs rfl ?_
          rw [show up (sgn0 T S F) 25 c (nsV (sgn0 T S F) c S) 19 (35 * S + 2) = T 19 (35 * S + 2) + shiT F from (up_j _ _ _ _ (by decide)).trans (up_s _ _ _ _)]
          refine aw_Si (pcn := 75) (c_bitCount _) mf_J6_bitCount_0f7a4 mv_J6_bitCount_0f7a4 ml_X6_46 rfl (by decide) (by decide) (by decide) (by exact Nat.le_of_ble_eq_true rfl) rfl dX6_sign_72 rfl (fun r h2 hq => ?_)
          obtain ⟨rfl, hq⟩ := hq
          obtain rfl := hq.symm
          exact aw_iret dX6_sign_75 rfl ⟨_, rfl, ret3 (T' := sgnT T c n S F) (by rw [signT_eq hS hc8 hc0o hF (by assumption), bc_size hsk]; simp only [q6, q7, Bool.false_eq_true, Bool.true_eq_false, reduceCtorEq, if_true, if_false, or_false, false_or, or_true, true_or, not_true_eq_false, not_false_eq_true, or_self]) (by unfold sgnT; rw [← ns_eq hI hSn hcC hc0o q6 (by rw [hI.ofm hSn hcC hc0o]; exact q5) q7]; exact hW)⟩
        · refine aw_bipush (v := -4) (pcn := 47) dX6_sign_45 rfl (by decide) ?_
          exact aw_iret dX6_sign_47 rfl ⟨_, rfl, ret3 (by first | (simp only [signT, hst, q5, q6, q7, Bool.false_eq_true, Bool.true_eq_false, reduceCtorEq, if_true, if_false, or_false, false_or, or_true, true_or, and_true, true_and, and_false, false_and, not_true_eq_false, not_false_eq_true, or_self, ← Int32.not_le, shiT]; done) | (rw [signT_eq hS hc8 hc0 hF (by assumption)]; simp only [hst, q5, q6, q7, Bool.false_eq_true, Bool.true_eq_false, reduceCtorEq, if_true, if_false, or_false, false_or, or_true, true_or, and_true, true_and, and_false, false_and, not_true_eq_false, not_false_eq_true, or_self, ← Int32.not_le, shiT]; done) | (rw [signT_eq hS hc8 hc0 hF (by assumption)]; simp only [hst, q5, q6, q7, Bool.false_eq_true, Bool.true_eq_false, reduceCtorEq, if_true, if_false, or_false, false_or, or_true, true_or, and_true, true_and, and_false, false_and, not_true_eq_false, not_false_eq_true, or_self, ← Int32.not_le, shiT]; rfl) | (rw [signT_eq hS hc8 hc0 hF (by assumption)]; rfl)) hW⟩
      · refine aw_bipush (v := -2) (pcn := 33) dX6_sign_31 rfl (by decide) ?_
        exact aw_iret dX6_sign_33 rfl ⟨_, rfl, ret3 (by first | (simp only [signT, hst, q5, q6, Bool.false_eq_true, Bool.true_eq_false, reduceCtorEq, if_true, if_false, or_false, false_or, or_true, true_or, and_true, true_and, and_false, false_and, not_true_eq_false, not_false_eq_true, or_self, ← Int32.not_le, shiT]; done) | (rw [signT_eq hS hc8 hc0 hF (by assumption)]; simp only [hst, q5, q6, Bool.false_eq_true, Bool.true_eq_false, reduceCtorEq, if_true, if_false, or_false, false_or, or_true, true_or, and_true, true_and, and_false, false_and, not_true_eq_false, not_false_eq_true, or_self, ← Int32.not_le, shiT]; done) | (rw [signT_eq hS hc8 hc0 hF (by assumption)]; simp only [hst, q5, q6, Bool.false_eq_true, Bool.true_eq_false, reduceCtorEq, if_true, if_false, or_false, false_or, or_true, true_or, and_true, true_and, and_false, false_and, not_true_eq_false, not_false_eq_true, or_self, ← Int32.not_le, shiT]; rfl) | (rw [signT_eq hS hc8 hc0 hF (by assumption)]; rfl)) hW⟩
    · refine aw_iconst (v := -1) (pcn := 19) dX6_sign_18 rfl (by decide) ?_
      exact aw_iret dX6_sign_19 rfl ⟨_, rfl, ret3 (by first | (simp only [signT, hst, q5, Bool.false_eq_true, Bool.true_eq_false, reduceCtorEq, if_true, if_false, or_false, false_or, or_true, true_or, and_true, true_and, and_false, false_and, not_true_eq_false, not_false_eq_true, or_self, ← Int32.not_le, shiT]; done) | (rw [signT_eq hS hc8 hc0 hF (by assumption)]; simp only [hst, q5, Bool.false_eq_true, Bool.true_eq_false, reduceCtorEq, if_true, if_false, or_false, false_or, or_true, true_or, and_true, true_and, and_false, false_and, not_true_eq_false, not_false_eq_true, or_self, ← Int32.not_le, shiT]; done) | (rw [signT_eq hS hc8 hc0 hF (by assumption)]; simp only [hst, q5, Bool.false_eq_true, Bool.true_eq_false, reduceCtorEq, if_true, if_false, or_false, false_or, or_true, true_or, and_true, true_and, and_false, false_and, not_true_eq_false, not_false_eq_true, or_self, ← Int32.not_le, shiT]; rfl) | (rw [signT_eq hS hc8 hc0 hF (by assumption)]; rfl)) hW⟩
