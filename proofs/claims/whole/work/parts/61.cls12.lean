/-! the class's face: locks, games, shown, agreed -/
theorem isLT_0 {T : TB} {s : Nat} {k : Int32} (h : inR k (nI 0) (nI 3 - nI 1) = false) : isLT T s k = false := by
  unfold isLT
  rw [show nI 2 = nI 3 - nI 1 by decide, h, Bool.false_and]
theorem isLT_K {T : TB} {s K : Nat} (hK : K < 3) : isLT T s (nI K) = decide (0 < lkT T s K 0) := by
  unfold isLT
  rw [inR_of (by omega) (by decide), Bool.true_and, ix_nI (by omega)]
theorem gsU_up (T : TB) (s : Nat) (a b c d : Int32) (x : Nat) (w : Int32) (hx : ¬ (35 * s + 31 ≤ x ∧ x < 35 * s + 35)) : gsU (up T 19 x w) s a b c d = up (gsU T s a b c d) 19 x w := by
  unfold gsU
  rw [up_commi _ _ _ _ (show x ≠ 35 * s + 31 by omega), up_commi _ _ _ _ (show x ≠ 35 * s + 32 by omega), up_commi _ _ _ _ (show x ≠ 35 * s + 33 by omega), up_commi _ _ _ _ (show x ≠ 35 * s + 34 by omega)]
theorem shows_26 {i : Nat} {T : TB} {C n Z hN c s : Nat} (H : Iv i T C n Z hN) (hc : c < C) (h3 : ¬ T 9 c = nI 3) : showsT T c s 26 c = showsT T c s 11 c := by
  unfold showsT
  split
  · rw [up_s, up_j _ _ _ _ (by decide), up_s]
  · rename_i h1
    have h2 : T 9 c = nI 2 := by
      rcases (H.ch hc).2.2.1 with a | a | a
      · exact absurd a h1
      · exact a
      · exact absurd a h3
    have e := (H.ch hc).2.2.2.2.2.2.2.2.1 h2
    split
    · rw [up_j _ _ _ _ (by decide), up_j _ _ _ _ (by decide)]; exact e
    · exact e
set_option maxHeartbeats 1600000 in
set_option maxRecDepth 20000 in
theorem c_a_lock {X : XG} {l : Launch} {Γ : NM} {ow : Nat → Nat × Nat} {h : Hp} {T Tr : TB} {nh : Nat} (hW : WD Γ ow h T Tr nh) {i C n Z hN : Nat} (hI : Iv i T C n Z hN) (s f t v z e : Int32) : AM X l yX6_lock cX6_lock 8 (some .int) 3 1 5 [.ref (Γ 0 0), .int s, .int f, .int t, .int v, .int z, .int e] h (qi fun r h' => r = (lockT T s f t v z e).1 ∧ WD Γ ow h' (lockT T s f t v z e).2 Tr nh) := by
  refine AM.of (by decide +kernel) (by simp [Value.category]) (Nat.le_of_ble_eq_true rfl) ?_
  show AW X l cX6_lock RX6 "lock" (some .int) 8 3 none _ 1 5 0 [some (.ref (Γ 0 0)), some (.int s), some (.int f), some (.int t), some (.int v), some (.int z), some (.int e), none] [] h
  have h64 := hI.n64
  have h8 := hI.C8
  have h16 := hI.Z16
  have h4 := hI.h4
  refine aw_alo 0 (pcn := 1) rfl dX6_lock_0 rfl rfl (rf_some _) ?_
  refine aw_ilo 1 (pcn := 2) rfl dX6_lock_1 rfl rfl ?_
  refine aw_Vr (pcn := 5) (c_stateAt hW hI _) mf_X6_stateAt mv_X6_stateAt hW.sc rfl ml_X6_123 rfl (by decide) (by decide) (by decide) (by exact Nat.le_of_ble_eq_true rfl) rfl dX6_lock_2 rfl (fun r h2 hq => ?_)
  obtain ⟨hq, hh⟩ := hq
  obtain rfl := hh.symm
  rcases hq with ⟨e0, rfl⟩ | ⟨S, c, hSn, hcC, hc0, rfl, hst, rfl⟩
  · have e1 : isOfT T s f = false := of_no e0 f
    refine aw_astore (pcn := 7) dX6_lock_5 rfl (by decide) (rf_none) ?_
    dsimp only [List.set_cons_zero, List.set_cons_succ]
    refine aw_aload (pcn := 9) dX6_lock_7 rfl rfl (rf_none) ?_
    refine aw_ifnull (t := 39) (pcn := 12) dX6_lock_9 rfl (by decide) (rf_none) (fun q1 => ?_) (fun a2 q1 => by cases q1)
    clear q1
    refine aw_iconst (v := -1) (pcn := 40) dX6_lock_39 rfl (by decide) ?_
    exact aw_iret dX6_lock_40 rfl ⟨_, rfl, ret3 (by first | (simp only [lockT, e1, Bool.false_eq_true, Bool.true_eq_false, reduceCtorEq, if_true, if_false, or_false, false_or, or_true, true_or, and_true, true_and, and_false, false_and, not_true_eq_false, not_false_eq_true, or_self, ← Int32.not_le, shiT]; done) | (rw [lockT_eq hS hc8 hc0 hF hP (by omega) (by assumption) (by assumption) (by assumption)]; simp only [e1, Bool.false_eq_true, Bool.true_eq_false, reduceCtorEq, if_true, if_false, or_false, false_or, or_true, true_or, and_true, true_and, and_false, false_and, not_true_eq_false, not_false_eq_true, or_self, ← Int32.not_le, shiT]; done) | (rw [lockT_eq hS hc8 hc0 hF hP (by omega) (by assumption) (by assumption) (by assumption)]; simp only [e1, Bool.false_eq_true, Bool.true_eq_false, reduceCtorEq, if_true, if_false, or_false, false_or, or_true, true_or, and_true, true_and, and_false, false_and, not_true_eq_false, not_false_eq_true, or_self, ← Int32.not_le, shiT]; rfl) | (rw [lockT_eq hS hc8 hc0 hF hP (by omega) (by assumption) (by assumption) (by assumption)]; rfl)) (hW)⟩
  · have hS : S < 64 := by omega
    have hc8 : c < 8 := by omega
    have vc := hI.vc hcC
    have vs := hI.vs hSn
    refine aw_astore (pcn := 7) dX6_lock_5 rfl (by decide) (rf_some _) ?_
    dsimp only [List.set_cons_zero, List.set_cons_succ]
    refine aw_aload (pcn := 9) dX6_lock_7 rfl rfl (rf_some _) ?_
    refine aw_ifnull (t := 39) (pcn := 12) dX6_lock_9 rfl (by decide) (rf_some _) (fun q3 => by cases q3) (fun a4 q3 => ?_)
    clear q3 a4
    refine aw_aload (pcn := 14) dX6_lock_12 rfl rfl (rf_some _) ?_
    refine aw_ilo 2 (pcn := 15) rfl dX6_lock_14 rfl rfl ?_
    obtain ⟨gs, hs, hgs⟩ := hW.st (s := S) vs hc8 hc0
    refine aw_Vi (pcn := 18) (c_hasM hW hI hSn hcC hc0 _) mf_X4_hasMember mv_X4_hasMember hs rfl ml_X6_127 rfl (by decide) (by decide) (by decide) (by exact Nat.le_of_ble_eq_true rfl) rfl dX6_lock_15 rfl (fun r h2 hq => ?_)
    obtain ⟨rfl, hq⟩ := hq
    obtain rfl := hq.symm
    rw [hI.ofm hSn hcC hc0]
    refine aw_if_eqB (t := 39) (pcn := 21) dX6_lock_18 rfl (by decide) (fun q5 => ?_) (fun q5 => ?_)
    · refine aw_iconst (v := -1) (pcn := 40) dX6_lock_39 rfl (by decide) ?_
      exact aw_iret dX6_lock_40 rfl ⟨_, rfl, ret3 (by first | (simp only [lockT, hst, q5, Bool.false_eq_true, Bool.true_eq_false, reduceCtorEq, if_true, if_false, or_false, false_or, or_true, true_or, and_true, true_and, and_false, false_and, not_true_eq_false, not_false_eq_true, or_self, ← Int32.not_le, shiT]; done) | (rw [lockT_eq hS hc8 hc0 hF hP (by omega) (by assumption) (by assumption) (by assumption)]; simp only [hst, q5, Bool.false_eq_true, Bool.true_eq_false, reduceCtorEq, if_true, if_false, or_false, false_or, or_true, true_or, and_true, true_and, and_false, false_and, not_true_eq_false, not_false_eq_true, or_self, ← Int32.not_le, shiT]; done) | (rw [lockT_eq hS hc8 hc0 hF hP (by omega) (by assumption) (by assumption) (by assumption)]; simp only [hst, q5, Bool.false_eq_true, Bool.true_eq_false, reduceCtorEq, if_true, if_false, or_false, false_or, or_true, true_or, and_true, true_and, and_false, false_and, not_true_eq_false, not_false_eq_true, or_self, ← Int32.not_le, shiT]; rfl) | (rw [lockT_eq hS hc8 hc0 hF hP (by omega) (by assumption) (by assumption) (by assumption)]; rfl)) (hW)⟩
    · obtain ⟨F, hF, rfl⟩ := Iv.oOfP q5
      refine aw_aload (pcn := 23) dX6_lock_21 rfl rfl (rf_some _) ?_
      refine aw_ilo 3 (pcn := 24) rfl dX6_lock_23 rfl rfl ?_
      obtain ⟨gs, hs, hgs⟩ := hW.st (s := S) vs hc8 hc0
      refine aw_Vi (pcn := 27) (c_hasM hW hI hSn hcC hc0 _) mf_X4_hasMember mv_X4_hasMember hs rfl ml_X6_127 rfl (by decide) (by decide) (by decide) (by exact Nat.le_of_ble_eq_true rfl) rfl dX6_lock_24 rfl (fun r h2 hq => ?_)
      obtain ⟨rfl, hq⟩ := hq
      obtain rfl := hq.symm
      rw [hI.ofm hSn hcC hc0]
      refine aw_if_eqB (t := 39) (pcn := 30) dX6_lock_27 rfl (by decide) (fun q6 => ?_) (fun q6 => ?_)
      · refine aw_iconst (v := -1) (pcn := 40) dX6_lock_39 rfl (by decide) ?_
        exact aw_iret dX6_lock_40 rfl ⟨_, rfl, ret3 (by first | (simp only [lockT, hst, q5, q6, Bool.false_eq_true, Bool.true_eq_false, reduceCtorEq, if_true, if_false, or_false, false_or, or_true, true_or, and_true, true_and, and_false, false_and, not_true_eq_false, not_false_eq_true, or_self, ← Int32.not_le, shiT]; done) | (rw [lockT_eq hS hc8 hc0 hF hP (by omega) (by assumption) (by assumption) (by assumption)]; simp only [hst, q5, q6, Bool.false_eq_true, Bool.true_eq_false, reduceCtorEq, if_true, if_false, or_false, false_or, or_true, true_or, and_true, true_and, and_false, false_and, not_true_eq_false, not_false_eq_true, or_self, ← Int32.not_le, shiT]; done) | (rw [lockT_eq hS hc8 hc0 hF hP (by omega) (by assumption) (by assumption) (by assumption)]; simp only [hst, q5, q6, Bool.false_eq_true, Bool.true_eq_false, reduceCtorEq, if_true, if_false, or_false, false_or, or_true, true_or, and_true, true_and, and_false, false_and, not_true_eq_false, not_false_eq_true, or_self, ← Int32.not_le, shiT]; rfl) | (rw [lockT_eq hS hc8 hc0 hF hP (by omega) (by assumption) (by assumption) (by assumption)]; rfl)) (hW)⟩
      · obtain ⟨P, hP, rfl⟩ := Iv.oOfP q6
        refine aw_alo 0 (pcn := 31) rfl dX6_lock_30 rfl rfl (rf_some _) ?_
        refine aw_iload (pcn := 33) dX6_lock_31 rfl rfl ?_
        refine aw_Vi (pcn := 36) (c_isSecret hW hI _) mf_X6_isSecret mv_X6_isSecret hW.sc rfl ml_X6_136 rfl (by decide) (by decide) (by decide) (by exact Nat.le_of_ble_eq_true rfl) rfl dX6_lock_33 rfl (fun r h2 hq => ?_)
        obtain ⟨rfl, hq⟩ := hq
        obtain rfl := hq.symm
        refine aw_if_neB (t := 41) (pcn := 39) dX6_lock_36 rfl (by decide) (fun q7 => ?_) (fun q7 => ?_)
        · obtain ⟨Z0, hZ0, rfl⟩ := oZ hI q7
          refine aw_aload (pcn := 43) dX6_lock_41 rfl rfl (rf_some _) ?_
          obtain ⟨gs, hs, hgs⟩ := hW.st (s := S) vs hc8 hc0
          refine aw_Vi (pcn := 46) (c_isFixed hW hI hSn hcC hc0) mf_X4_isFixed mv_X4_isFixed hs rfl ml_X6_128 rfl (by decide) (by decide) (by decide) (by exact Nat.le_of_ble_eq_true rfl) rfl dX6_lock_43 rfl (fun r h2 hq => ?_)
          obtain ⟨rfl, hq⟩ := hq
          obtain rfl := hq.symm
          refine aw_if_eqB (t := 52) (pcn := 49) dX6_lock_46 rfl (by decide) (fun q8 => ?_) (fun q8 => ?_)
          · refine aw_iload (pcn := 54) dX6_lock_52 rfl rfl ?_
            refine aw_iconst (v := nI 1) (pcn := 55) dX6_lock_54 rfl (by decide) ?_
            refine aw_ldc (pcn := 57) ct_X6_132 dX6_lock_55 rfl ?_
            rw [show (60000 : Int32) = nI 60000 by decide]
            refine aw_Si (pcn := 60) (c_isWithin _ _ _) mf_X6_isWithin mv_X6_isWithin ml_X6_42 rfl (by decide) (by decide) (by decide) (by exact Nat.le_of_ble_eq_true rfl) rfl dX6_lock_57 rfl (fun r h2 hq => ?_)
            obtain ⟨rfl, hq⟩ := hq
            obtain rfl := hq.symm
            refine aw_if_eqB (t := 74) (pcn := 63) dX6_lock_60 rfl (by decide) (fun q9 => ?_) (fun q9 => ?_)
            · refine aw_bipush (v := -3) (pcn := 76) dX6_lock_74 rfl (by decide) ?_
              exact aw_iret dX6_lock_76 rfl ⟨_, rfl, ret3 (by first | (simp only [lockT, hst, q5, q6, q7, q8, q9, Bool.false_eq_true, Bool.true_eq_false, reduceCtorEq, if_true, if_false, or_false, false_or, or_true, true_or, and_true, true_and, and_false, false_and, not_true_eq_false, not_false_eq_true, or_self, ← Int32.not_le, shiT]; done) | (rw [lockT_eq hS hc8 hc0 hF hP (by omega) (by assumption) (by assumption) (by assumption)]; simp only [hst, q5, q6, q7, q8, q9, Bool.false_eq_true, Bool.true_eq_false, reduceCtorEq, if_true, if_false, or_false, false_or, or_true, true_or, and_true, true_and, and_false, false_and, not_true_eq_false, not_false_eq_true, or_self, ← Int32.not_le, shiT]; done) | (rw [lockT_eq hS hc8 hc0 hF hP (by omega) (by assumption) (by assumption) (by assumption)]; simp only [hst, q5, q6, q7, q8, q9, Bool.false_eq_true, Bool.true_eq_false, reduceCtorEq, if_true, if_false, or_false, false_or, or_true, true_or, and_true, true_and, and_false, false_and, not_true_eq_false, not_false_eq_true, or_self, ← Int32.not_le, shiT]; rfl) | (rw [lockT_eq hS hc8 hc0 hF hP (by omega) (by assumption) (by assumption) (by assumption)]; rfl)) (hW)⟩
            · refine aw_iload (pcn := 65) dX6_lock_63 rfl rfl ?_
              refine aw_iconst (v := nI 1) (pcn := 66) dX6_lock_65 rfl (by decide) ?_
              refine aw_ldc (pcn := 68) ct_X6_139 dX6_lock_66 rfl ?_
              rw [show (1000000 : Int32) = nI 1000000 by decide]
              refine aw_Si (pcn := 71) (c_isWithin _ _ _) mf_X6_isWithin mv_X6_isWithin ml_X6_42 rfl (by decide) (by decide) (by decide) (by exact Nat.le_of_ble_eq_true rfl) rfl dX6_lock_68 rfl (fun r h2 hq => ?_)
              obtain ⟨rfl, hq⟩ := hq
              obtain rfl := hq.symm
              refine aw_if_neB (t := 77) (pcn := 74) dX6_lock_71 rfl (by decide) (fun q10 => ?_) (fun q10 => ?_)
              · refine aw_ilo 2 (pcn := 78) rfl dX6_lock_77 rfl rfl ?_
                refine aw_ilo 3 (pcn := 79) rfl dX6_lock_78 rfl rfl ?_
                refine aw_icmp_eq (t := 102) (pcn := 82) dX6_lock_79 rfl (by decide) (fun q11 => ?_) (fun q11 => ?_)
                · refine aw_bipush (v := -4) (pcn := 104) dX6_lock_102 rfl (by decide) ?_
                  exact aw_iret dX6_lock_104 rfl ⟨_, rfl, ret3 (by first | (simp only [lockT, hst, q5, q6, q7, q8, q9, q10, q11, Bool.false_eq_true, Bool.true_eq_false, reduceCtorEq, if_true, if_false, or_false, false_or, or_true, true_or, and_true, true_and, and_false, false_and, not_true_eq_false, not_false_eq_true, or_self, ← Int32.not_le, shiT]; done) | (rw [lockT_eq hS hc8 hc0 hF hP (by omega) (by assumption) (by assumption) (by assumption)]; simp only [hst, q5, q6, q7, q8, q9, q10, q11, Bool.false_eq_true, Bool.true_eq_false, reduceCtorEq, if_true, if_false, or_false, false_or, or_true, true_or, and_true, true_and, and_false, false_and, not_true_eq_false, not_false_eq_true, or_self, ← Int32.not_le, shiT]; done) | (rw [lockT_eq hS hc8 hc0 hF hP (by omega) (by assumption) (by assumption) (by assumption)]; simp only [hst, q5, q6, q7, q8, q9, q10, q11, Bool.false_eq_true, Bool.true_eq_false, reduceCtorEq, if_true, if_false, or_false, false_or, or_true, true_or, and_true, true_and, and_false, false_and, not_true_eq_false, not_false_eq_true, or_self, ← Int32.not_le, shiT]; rfl) | (rw [lockT_eq hS hc8 hc0 hF hP (by omega) (by assumption) (by assumption) (by assumption)]; rfl)) (hW)⟩
                · refine aw_aload (pcn := 84) dX6_lock_82 rfl rfl (rf_some _) ?_
                  refine aw_ilo 2 (pcn := 85) rfl dX6_lock_84 rfl rfl ?_
                  obtain ⟨gs, hs, hgs⟩ := hW.st (s := S) vs hc8 hc0
                  refine aw_Vi (pcn := 88) (c_freeOf hW hI hSn hcC hc0 (P := _) (by omega)) mf_X4_freeOf mv_X4_freeOf hs rfl ml_X6_133 rfl (by decide) (by decide) (by decide) (by exact Nat.le_of_ble_eq_true rfl) rfl dX6_lock_85 rfl (fun r h2 hq => ?_)
                  obtain ⟨rfl, hq⟩ := hq
                  obtain rfl := hq.symm
                  refine aw_iload (pcn := 90) dX6_lock_88 rfl rfl ?_
                  refine aw_icmp_lt (t := 102) (pcn := 93) dX6_lock_90 rfl (by decide) (fun q12 => ?_) (fun q12 => ?_)
                  · replace q12 := Int32.not_le.mpr q12
                    refine aw_bipush (v := -4) (pcn := 104) dX6_lock_102 rfl (by decide) ?_
                    exact aw_iret dX6_lock_104 rfl ⟨_, rfl, ret3 (by first | (simp only [lockT, hst, q5, q6, q7, q8, q9, q10, q11, q12, Bool.false_eq_true, Bool.true_eq_false, reduceCtorEq, if_true, if_false, or_false, false_or, or_true, true_or, and_true, true_and, and_false, false_and, not_true_eq_false, not_false_eq_true, or_self, ← Int32.not_le, shiT]; done) | (rw [lockT_eq hS hc8 hc0 hF hP (by omega) (by assumption) (by assumption) (by assumption)]; simp only [hst, q5, q6, q7, q8, q9, q10, q11, q12, Bool.false_eq_true, Bool.true_eq_false, reduceCtorEq, if_true, if_false, or_false, false_or, or_true, true_or, and_true, true_and, and_false, false_and, not_true_eq_false, not_false_eq_true, or_self, ← Int32.not_le, shiT]; done) | (rw [lockT_eq hS hc8 hc0 hF hP (by omega) (by assumption) (by assumption) (by assumption)]; simp only [hst, q5, q6, q7, q8, q9, q10, q11, q12, Bool.false_eq_true, Bool.true_eq_false, reduceCtorEq, if_true, if_false, or_false, false_or, or_true, true_or, and_true, true_and, and_false, false_and, not_true_eq_false, not_false_eq_true, or_self, ← Int32.not_le, shiT]; rfl) | (rw [lockT_eq hS hc8 hc0 hF hP (by omega) (by assumption) (by assumption) (by assumption)]; rfl)) (hW)⟩
                  · replace q12 := Int32.not_lt.mp q12
                    refine aw_aload (pcn := 95) dX6_lock_93 rfl rfl (rf_some _) ?_
                    obtain ⟨gs, hs, hgs⟩ := hW.st (s := S) vs hc8 hc0
                    refine aw_Vi (pcn := 98) (c_emptyPlace hW hI hSn hcC hc0) mf_X4_emptyPlace mv_X4_emptyPlace hs rfl ml_X6_140 rfl (by decide) (by decide) (by decide) (by exact Nat.le_of_ble_eq_true rfl) rfl dX6_lock_95 rfl (fun r h2 hq => ?_)
                    obtain ⟨rfl, hq⟩ := hq
                    obtain rfl := hq.symm
                    refine aw_iconst (v := -1) (pcn := 99) dX6_lock_98 rfl (by decide) ?_
                    refine aw_icmp_ne (t := 105) (pcn := 102) dX6_lock_99 rfl (by decide) (fun q13 => ?_) (fun q13 => ?_)
                    · refine aw_aload (pcn := 107) dX6_lock_105 rfl rfl (rf_some _) ?_
                      obtain ⟨K, hK3, hep⟩ := ep_nI q13
                      have hv0 : ¬ v = 0 := fun e => by
                        obtain ⟨V, hV0, hV1, hV2⟩ := inRp (v := v) (b := 60000) (by decide) (by assumption)
                        rw [e] at hV2
                        exact nI_ne0 hV0 (by omega) hV2.symm
                      refine aw_new 5 (pcn := 110) nw_X6_144 rfl dX6_lock_107 rfl (by decide) (by decide) (fun a za => ?_)
                      refine aw_dup (pcn := 111) dX6_lock_110 rfl rfl ?_
                      refine aw_ilo 2 (pcn := 112) rfl dX6_lock_111 rfl rfl ?_
                      refine aw_ilo 3 (pcn := 113) rfl dX6_lock_112 rfl rfl ?_
                      refine aw_iload (pcn := 115) dX6_lock_113 rfl rfl ?_
                      refine aw_iload (pcn := 117) dX6_lock_115 rfl rfl ?_
                      refine aw_iload (pcn := 119) dX6_lock_117 rfl rfl ?_
                      refine aw_Iv (rty := none) (pcn := 122) (c_Lock (hup_s _ _ _) (nI F) (nI P) v (nI Z0) e) mf_X3_init mv_X3_init rfl ml_X6_146 rfl (by decide) (by decide) (by decide) (by exact Nat.le_of_ble_eq_true rfl) rfl dX6_lock_119 rfl (fun h2 hq => ?_)
                      rw [hup_hup] at hq
                      have hW := hW.made (c := ob 3 [.int (nI F), .int (nI P), .int v, .int (nI Z0), .int e]) za
                      rw [← hq] at hW
                      have hlo : h2 a = some (ob 3 [.int (nI F), .int (nI P), .int v, .int (nI Z0), .int e]) := by rw [hq]; exact hup_s _ _ _
                      obtain ⟨gs, hs, hgs⟩ := hW.st (s := S) vs hc8 hc0
                      refine aw_Vi (pcn := 125) (c_addLock hW hI hSn hcC hc0 hK3 hF hep hv0 hlo) mf_X4_addLock mv_X4_addLock hs rfl ml_X6_149 rfl (by decide) (by decide) (by decide) (by exact Nat.le_of_ble_eq_true rfl) rfl dX6_lock_122 rfl (fun r h hq => ?_)
                      obtain ⟨rfl, hW, hk⟩ := hq
                      exact aw_iret dX6_lock_125 rfl ⟨_, rfl, ret3 (T' := lksT T S K F P Z0 v e) (by rw [lockT_eq hS hc8 hc0 hF hP (by omega) (by assumption) (by assumption) (by assumption)]; simp only [hst, q5, q6, q7, q8, q9, q10, q11, q12, q13, Bool.false_eq_true, Bool.true_eq_false, reduceCtorEq, if_true, if_false, or_false, false_or, or_true, true_or, and_true, true_and, and_false, false_and, not_true_eq_false, not_false_eq_true, or_self, ← Int32.not_le, shiT]; rw [hep, ix_nI (by omega)]) hW⟩
                    · refine aw_bipush (v := -4) (pcn := 104) dX6_lock_102 rfl (by decide) ?_
                      exact aw_iret dX6_lock_104 rfl ⟨_, rfl, ret3 (by first | (simp only [lockT, hst, q5, q6, q7, q8, q9, q10, q11, q12, q13, Bool.false_eq_true, Bool.true_eq_false, reduceCtorEq, if_true, if_false, or_false, false_or, or_true, true_or, and_true, true_and, and_false, false_and, not_true_eq_false, not_false_eq_true, or_self, ← Int32.not_le, shiT]; done) | (rw [lockT_eq hS hc8 hc0 hF hP (by omega) (by assumption) (by assumption) (by assumption)]; simp only [hst, q5, q6, q7, q8, q9, q10, q11, q12, q13, Bool.false_eq_true, Bool.true_eq_false, reduceCtorEq, if_true, if_false, or_false, false_or, or_true, true_or, and_true, true_and, and_false, false_and, not_true_eq_false, not_false_eq_true, or_self, ← Int32.not_le, shiT]; done) | (rw [lockT_eq hS hc8 hc0 hF hP (by omega) (by assumption) (by assumption) (by assumption)]; simp only [hst, q5, q6, q7, q8, q9, q10, q11, q12, q13, Bool.false_eq_true, Bool.true_eq_false, reduceCtorEq, if_true, if_false, or_false, false_or, or_true, true_or, and_true, true_and, and_false, false_and, not_true_eq_false, not_false_eq_true, or_self, ← Int32.not_le, shiT]; rfl) | (rw [lockT_eq hS hc8 hc0 hF hP (by omega) (by assumption) (by assumption) (by assumption)]; rfl)) (hW)⟩
              · refine aw_bipush (v := -3) (pcn := 76) dX6_lock_74 rfl (by decide) ?_
                exact aw_iret dX6_lock_76 rfl ⟨_, rfl, ret3 (by first | (simp only [lockT, hst, q5, q6, q7, q8, q9, q10, Bool.false_eq_true, Bool.true_eq_false, reduceCtorEq, if_true, if_false, or_false, false_or, or_true, true_or, and_true, true_and, and_false, false_and, not_true_eq_false, not_false_eq_true, or_self, ← Int32.not_le, shiT]; done) | (rw [lockT_eq hS hc8 hc0 hF hP (by omega) (by assumption) (by assumption) (by assumption)]; simp only [hst, q5, q6, q7, q8, q9, q10, Bool.false_eq_true, Bool.true_eq_false, reduceCtorEq, if_true, if_false, or_false, false_or, or_true, true_or, and_true, true_and, and_false, false_and, not_true_eq_false, not_false_eq_true, or_self, ← Int32.not_le, shiT]; done) | (rw [lockT_eq hS hc8 hc0 hF hP (by omega) (by assumption) (by assumption) (by assumption)]; simp only [hst, q5, q6, q7, q8, q9, q10, Bool.false_eq_true, Bool.true_eq_false, reduceCtorEq, if_true, if_false, or_false, false_or, or_true, true_or, and_true, true_and, and_false, false_and, not_true_eq_false, not_false_eq_true, or_self, ← Int32.not_le, shiT]; rfl) | (rw [lockT_eq hS hc8 hc0 hF hP (by omega) (by assumption) (by assumption) (by assumption)]; rfl)) (hW)⟩
          · refine aw_bipush (v := -2) (pcn := 51) dX6_lock_49 rfl (by decide) ?_
            exact aw_iret dX6_lock_51 rfl ⟨_, rfl, ret3 (by first | (simp only [lockT, hst, q5, q6, q7, q8, Bool.false_eq_true, Bool.true_eq_false, reduceCtorEq, if_true, if_false, or_false, false_or, or_true, true_or, and_true, true_and, and_false, false_and, not_true_eq_false, not_false_eq_true, or_self, ← Int32.not_le, shiT]; done) | (rw [lockT_eq hS hc8 hc0 hF hP (by omega) (by assumption) (by assumption) (by assumption)]; simp only [hst, q5, q6, q7, q8, Bool.false_eq_true, Bool.true_eq_false, reduceCtorEq, if_true, if_false, or_false, false_or, or_true, true_or, and_true, true_and, and_false, false_and, not_true_eq_false, not_false_eq_true, or_self, ← Int32.not_le, shiT]; done) | (rw [lockT_eq hS hc8 hc0 hF hP (by omega) (by assumption) (by assumption) (by assumption)]; simp only [hst, q5, q6, q7, q8, Bool.false_eq_true, Bool.true_eq_false, reduceCtorEq, if_true, if_false, or_false, false_or, or_true, true_or, and_true, true_and, and_false, false_and, not_true_eq_false, not_false_eq_true, or_self, ← Int32.not_le, shiT]; rfl) | (rw [lockT_eq hS hc8 hc0 hF hP (by omega) (by assumption) (by assumption) (by assumption)]; rfl)) (hW)⟩
        · refine aw_iconst (v := -1) (pcn := 40) dX6_lock_39 rfl (by decide) ?_
          exact aw_iret dX6_lock_40 rfl ⟨_, rfl, ret3 (by first | (simp only [lockT, hst, q5, q6, q7, Bool.false_eq_true, Bool.true_eq_false, reduceCtorEq, if_true, if_false, or_false, false_or, or_true, true_or, and_true, true_and, and_false, false_and, not_true_eq_false, not_false_eq_true, or_self, ← Int32.not_le, shiT]; done) | (rw [lockT_eq hS hc8 hc0 hF hP (by omega) (by assumption) (by assumption) (by assumption)]; simp only [hst, q5, q6, q7, Bool.false_eq_true, Bool.true_eq_false, reduceCtorEq, if_true, if_false, or_false, false_or, or_true, true_or, and_true, true_and, and_false, false_and, not_true_eq_false, not_false_eq_true, or_self, ← Int32.not_le, shiT]; done) | (rw [lockT_eq hS hc8 hc0 hF hP (by omega) (by assumption) (by assumption) (by assumption)]; simp only [hst, q5, q6, q7, Bool.false_eq_true, Bool.true_eq_false, reduceCtorEq, if_true, if_false, or_false, false_or, or_true, true_or, and_true, true_and, and_false, false_and, not_true_eq_false, not_false_eq_true, or_self, ← Int32.not_le, shiT]; rfl) | (rw [lockT_eq hS hc8 hc0 hF hP (by omega) (by assumption) (by assumption) (by assumption)]; rfl)) (hW)⟩

set_option maxHeartbeats 1600000 in
set_option maxRecDepth 20000 in
theorem c_a_unlock {X : XG} {l : Launch} {Γ : NM} {ow : Nat → Nat × Nat} {h : Hp} {T Tr : TB} {nh : Nat} (hW : WD Γ ow h T Tr nh) {i C n Z hN : Nat} (hI : Iv i T C n Z hN) (s k op : Int32) : AM X l yX6_unlock cX6_unlock 6 (some .int) 1 0 0 [.ref (Γ 0 0), .int s, .int k, .int op] h (qi fun r h' => r = (unlockT T s k op).1 ∧ WD Γ ow h' (unlockT T s k op).2 Tr nh) := by
  refine AM.of (by decide +kernel) (by simp [Value.category]) (Nat.le_of_ble_eq_true rfl) ?_
  show AW X l cX6_unlock RX6 "unlock" (some .int) 6 1 none _ 0 0 0 [some (.ref (Γ 0 0)), some (.int s), some (.int k), some (.int op), none, none] [] h
  have hK : Kp h h := Kp.rfl
  have h64 := hI.n64
  have h8 := hI.C8
  have h16 := hI.Z16
  have h4 := hI.h4
  refine aw_alo 0 (pcn := 1) rfl dX6_unlock_0 rfl rfl (rf_some _) ?_
  refine aw_ilo 1 (pcn := 2) rfl dX6_unlock_1 rfl rfl ?_
  refine aw_Vr (pcn := 5) (c_stateAt hW hI _) mf_X6_stateAt mv_X6_stateAt hW.sc rfl ml_X6_123 rfl (by decide) (by decide) (by decide) (by exact Nat.le_of_ble_eq_true rfl) rfl dX6_unlock_2 rfl (fun r h2 hq => ?_)
  obtain ⟨hq, hh⟩ := hq
  obtain rfl := hh.symm
  rcases hq with ⟨e0, rfl⟩ | ⟨S, c, hSn, hcC, hc0, rfl, hst, rfl⟩
  · refine aw_astore (pcn := 7) dX6_unlock_5 rfl (by decide) (rf_none) ?_
    dsimp only [List.set_cons_zero, List.set_cons_succ]
    refine aw_aload (pcn := 9) dX6_unlock_7 rfl rfl (rf_none) ?_
    refine aw_ifnonnull (t := 14) (pcn := 12) dX6_unlock_9 rfl (by decide) (rf_none) (fun a2 q1 => by cases q1) (fun q1 => ?_)
    clear q1
    refine aw_iconst (v := -1) (pcn := 13) dX6_unlock_12 rfl (by decide) ?_
    exact aw_iret dX6_unlock_13 rfl ⟨_, rfl, ret3 (by unfold unlockT; exact if_pos (Or.inl e0)) hW⟩
  · have hS : S < 64 := by omega
    have hc8 : c < 8 := by omega
    have vc := hI.vc hcC
    have vs := hI.vs hSn
    refine aw_astore (pcn := 7) dX6_unlock_5 rfl (by decide) (rf_some _) ?_
    dsimp only [List.set_cons_zero, List.set_cons_succ]
    refine aw_aload (pcn := 9) dX6_unlock_7 rfl rfl (rf_some _) ?_
    refine aw_ifnonnull (t := 14) (pcn := 12) dX6_unlock_9 rfl (by decide) (rf_some _) (fun a4 q3 => ?_) (fun q3 => by cases q3)
    clear q3 a4
    refine aw_aload (pcn := 16) dX6_unlock_14 rfl rfl (rf_some _) ?_
    refine aw_ilo 2 (pcn := 17) rfl dX6_unlock_16 rfl rfl ?_
    obtain ⟨gs, hs, hgs⟩ := hW.st (s := S) vs hc8 hc0
    refine aw_Vr (pcn := 20) (c_lockAt hW hI hSn hcC hc0 _) mf_X4_lockAt mv_X4_lockAt hs rfl ml_X6_153 rfl (by decide) (by decide) (by decide) (by exact Nat.le_of_ble_eq_true rfl) rfl dX6_unlock_17 rfl (fun r h2 hq => ?_)
    obtain ⟨hq, hh⟩ := hq
    obtain rfl := hh.symm
    rcases hq with ⟨eL, rfl⟩ | ⟨K, hK3, rfl, eL, hr⟩
    · have hlt : isLT T S k = false := isLT_0 eL
      refine aw_astore (pcn := 22) dX6_unlock_20 rfl (by decide) (rf_none) ?_
      dsimp only [List.set_cons_zero, List.set_cons_succ]
      refine aw_aload (pcn := 24) dX6_unlock_22 rfl rfl (rf_none) ?_
      refine aw_ifnonnull (t := 29) (pcn := 27) dX6_unlock_24 rfl (by decide) (rf_none) (fun a6 q5 => by cases q5) (fun q5 => ?_)
      clear q5
      refine aw_iconst (v := -1) (pcn := 28) dX6_unlock_27 rfl (by decide) ?_
      exact aw_iret dX6_unlock_28 rfl ⟨_, rfl, ret3 (by unfold unlockT; exact if_pos (Or.inr (by rw [ix_nI (by omega)]; exact hlt))) hW⟩
    · refine aw_astore (pcn := 22) dX6_unlock_20 rfl (by decide) (rfl) ?_
      dsimp only [List.set_cons_zero, List.set_cons_succ]
      refine aw_aload (pcn := 24) dX6_unlock_22 rfl rfl (rfl) ?_
      refine aw_ifnonnull (t := 29) (pcn := 27) dX6_unlock_24 rfl (by decide) rfl (fun a8 q7 => ?_) (fun q7 => ?_)
      · have hz := hr.s q7
        subst q7
        obtain ⟨l0, l1, l2, l3, l4⟩ := (hI.st hSn).2.2.1 K hK3
        have hlt : isLT T S (nI K) = true := by rw [isLT_K hK3, decide_eq_true (pos_of l0 hz.1)]
        have hlo := hz.2
        refine aw_aload (pcn := 31) dX6_unlock_29 rfl rfl (rf_some _) ?_
        obtain ⟨gs, hs, hgs⟩ := hW.st (s := S) vs hc8 hc0
        refine aw_Vi (pcn := 34) (c_isFixed hW hI hSn hcC hc0) mf_X4_isFixed mv_X4_isFixed hs rfl ml_X6_128 rfl (by decide) (by decide) (by decide) (by exact Nat.le_of_ble_eq_true rfl) rfl dX6_unlock_31 rfl (fun r h2 hq => ?_)
        obtain ⟨rfl, hq⟩ := hq
        obtain rfl := hq.symm
        refine aw_if_eqB (t := 40) (pcn := 37) dX6_unlock_34 rfl (by decide) (fun q9 => ?_) (fun q9 => ?_)
        · refine aw_aload (pcn := 42) dX6_unlock_40 rfl rfl (rf_some _) ?_
          refine aw_ilo 2 (pcn := 43) rfl dX6_unlock_42 rfl rfl ?_
          obtain ⟨gs, hs, hgs⟩ := hW.st (s := S) vs hc8 hc0
          refine aw_Vv (pcn := 46) (c_removeLock hW (S := S) (K := K) vs hK3) mf_X4_removeLock mv_X4_removeLock hs rfl ml_X6_157 rfl (by decide) (by decide) (by decide) (by exact Nat.le_of_ble_eq_true rfl) rfl dX6_unlock_43 rfl (fun h hW => ?_)
          obtain ⟨hW, hk⟩ := hW
          have hK := hK.trans hk
          refine aw_aload (pcn := 48) dX6_unlock_46 rfl rfl (rf_some _) ?_
          have hc0' : lsU T S K (nI 0) (nI 0) (nI 0) (nI 0) (nI 0) 19 (35 * S + 0) = nI c := by rw [lsU_o (by omega)]; exact hc0
          have hlo := hk.lk hlo
          have hc0o := hc0
          have hc0 := hc0'
          obtain ⟨gs, hs, hgs⟩ := hW.st (s := S) vs hc8 hc0
          refine aw_getf (pcn := 51) fl_X6_80 dX6_unlock_48 rfl hs rfl ?_
          refine aw_ilo 3 (pcn := 52) rfl dX6_unlock_51 rfl rfl ?_
          refine aw_if_eq (t := 63) (pcn := 55) dX6_unlock_52 rfl (by decide) (fun q10 => ?_) (fun q10 => ?_)
          · refine aw_aload (pcn := 65) dX6_unlock_63 rfl rfl (rf_some _) ?_
            refine aw_getf (pcn := 68) fl_X6_164 dX6_unlock_65 rfl hlo rfl ?_
            obtain ⟨P, hP, hP1⟩ := l1
            rw [hP1]
            refine aw_aload (pcn := 70) dX6_unlock_68 rfl rfl (rf_some _) ?_
            refine aw_getf (pcn := 73) fl_X6_167 dX6_unlock_70 rfl hlo rfl ?_
            obtain ⟨fs, hsh1, hsh2, hsh3⟩ := hW.sh (s := S) vs
            refine aw_Vv (pcn := 76) (c_add0 hsh1 hsh2 hP _) mf_X5_add mv_X5_add hsh1 rfl ml_X6_74 rfl (by decide) (by decide) (by decide) (by exact Nat.le_of_ble_eq_true rfl) rfl dX6_unlock_73 rfl (fun h hq => ?_)
            have hK := hK.trans (Kp.put hW hq (v8 (T := lsU T S K (nI 0) (nI 0) (nI 0) (nI 0) (nI 0)) vs (by decide) (by decide)))
            have hW := hW.shW (s := S) vs hsh3 hP (fs P + lkT T S K 0)
            rw [← hq] at hW
            clear hq
            rw [hsh3 P hP] at hW
            have hlo := hK.lk hz.2
            refine aw_aload (pcn := 78) dX6_unlock_76 rfl rfl (rf_some _) ?_
            refine aw_getf (pcn := 81) fl_X6_167 dX6_unlock_78 rfl hlo rfl ?_
            exact aw_iret dX6_unlock_81 rfl ⟨_, rfl, ret3 (T' := ulkT T S K P) (by rw [unlockT_eq hS hc8 hc0o hK3 hst hlt, if_neg (by rw [q9]; decide)]; first | (rw [if_pos q10, show lkT T S K 1 = nI P from hP1, ix_nI (by omega)]) | (rw [if_neg q10, show lkT T S K 2 = nI P from hP1, ix_nI (by omega)])) (by rw [ulkT_eq, lsU_up _ _ _ _ _ _ _ _ _ _ (by omega)]; rw [lsU_o (by omega)] at hW; exact hW)⟩
          · refine aw_aload (pcn := 57) dX6_unlock_55 rfl rfl (rf_some _) ?_
            refine aw_getf (pcn := 60) fl_X6_161 dX6_unlock_57 rfl hlo rfl ?_
            obtain ⟨P, hP, hP1⟩ := l2
            rw [hP1]
            refine aw_goto (t := 68) dX6_unlock_60 (by decide) ?_
            refine aw_aload (pcn := 70) dX6_unlock_68 rfl rfl (rf_some _) ?_
            refine aw_getf (pcn := 73) fl_X6_167 dX6_unlock_70 rfl hlo rfl ?_
            obtain ⟨fs, hsh1, hsh2, hsh3⟩ := hW.sh (s := S) vs
            refine aw_Vv (pcn := 76) (c_add0 hsh1 hsh2 hP _) mf_X5_add mv_X5_add hsh1 rfl ml_X6_74 rfl (by decide) (by decide) (by decide) (by exact Nat.le_of_ble_eq_true rfl) rfl dX6_unlock_73 rfl (fun h hq => ?_)
            have hK := hK.trans (Kp.put hW hq (v8 (T := lsU T S K (nI 0) (nI 0) (nI 0) (nI 0) (nI 0)) vs (by decide) (by decide)))
            have hW := hW.shW (s := S) vs hsh3 hP (fs P + lkT T S K 0)
            rw [← hq] at hW
            clear hq
            rw [hsh3 P hP] at hW
            have hlo := hK.lk hz.2
            refine aw_aload (pcn := 78) dX6_unlock_76 rfl rfl (rf_some _) ?_
            refine aw_getf (pcn := 81) fl_X6_167 dX6_unlock_78 rfl hlo rfl ?_
            exact aw_iret dX6_unlock_81 rfl ⟨_, rfl, ret3 (T' := ulkT T S K P) (by rw [unlockT_eq hS hc8 hc0o hK3 hst hlt, if_neg (by rw [q9]; decide)]; first | (rw [if_pos q10, show lkT T S K 1 = nI P from hP1, ix_nI (by omega)]) | (rw [if_neg q10, show lkT T S K 2 = nI P from hP1, ix_nI (by omega)])) (by rw [ulkT_eq, lsU_up _ _ _ _ _ _ _ _ _ _ (by omega)]; rw [lsU_o (by omega)] at hW; exact hW)⟩
        · refine aw_bipush (v := -2) (pcn := 39) dX6_unlock_37 rfl (by decide) ?_
          exact aw_iret dX6_unlock_39 rfl ⟨_, rfl, ret3 (by rw [unlockT_eq hS hc8 hc0 hK3 hst hlt, if_pos q9]) hW⟩
      · have hz := hr.n q7
        have hlt : isLT T S (nI K) = false := by rw [isLT_K hK3, hz]; rfl
        refine aw_iconst (v := -1) (pcn := 28) dX6_unlock_27 rfl (by decide) ?_
        exact aw_iret dX6_unlock_28 rfl ⟨_, rfl, ret3 (by unfold unlockT; exact if_pos (Or.inr (by rw [ix_nI (by omega)]; exact hlt))) hW⟩

set_option maxHeartbeats 1600000 in
set_option maxRecDepth 20000 in
theorem c_a_game {X : XG} {l : Launch} {Γ : NM} {ow : Nat → Nat × Nat} {h : Hp} {T Tr : TB} {nh : Nat} (hW : WD Γ ow h T Tr nh) {i C n Z hN : Nat} (hI : Iv i T C n Z hN) (s f t v e : Int32) : AM X l yX6_game cX6_game 8 (some .int) 3 1 4 [.ref (Γ 0 0), .int s, .int f, .int t, .int v, .int e] h (qi fun r h' => r = (gameT T s f t v e).1 ∧ WD Γ ow h' (gameT T s f t v e).2 Tr nh) := by
  refine AM.of (by decide +kernel) (by simp [Value.category]) (Nat.le_of_ble_eq_true rfl) ?_
  show AW X l cX6_game RX6 "game" (some .int) 8 3 none _ 1 4 0 [some (.ref (Γ 0 0)), some (.int s), some (.int f), some (.int t), some (.int v), some (.int e), none, none] [] h
  have h64 := hI.n64
  have h8 := hI.C8
  have h16 := hI.Z16
  have h4 := hI.h4
  refine aw_alo 0 (pcn := 1) rfl dX6_game_0 rfl rfl (rf_some _) ?_
  refine aw_ilo 1 (pcn := 2) rfl dX6_game_1 rfl rfl ?_
  refine aw_Vr (pcn := 5) (c_stateAt hW hI _) mf_X6_stateAt mv_X6_stateAt hW.sc rfl ml_X6_123 rfl (by decide) (by decide) (by decide) (by exact Nat.le_of_ble_eq_true rfl) rfl dX6_game_2 rfl (fun r h2 hq => ?_)
  obtain ⟨hq, hh⟩ := hq
  obtain rfl := hh.symm
  rcases hq with ⟨e0, rfl⟩ | ⟨S, c, hSn, hcC, hc0, rfl, hst, rfl⟩
  · have e1 : isOfT T s f = false := of_no e0 f
    refine aw_astore (pcn := 7) dX6_game_5 rfl (by decide) (rf_none) ?_
    dsimp only [List.set_cons_zero, List.set_cons_succ]
    refine aw_aload (pcn := 9) dX6_game_7 rfl rfl (rf_none) ?_
    refine aw_ifnull (t := 30) (pcn := 12) dX6_game_9 rfl (by decide) (rf_none) (fun q1 => ?_) (fun a2 q1 => by cases q1)
    clear q1
    refine aw_iconst (v := -1) (pcn := 31) dX6_game_30 rfl (by decide) ?_
    exact aw_iret dX6_game_31 rfl ⟨_, rfl, ret3 (by first | (simp only [gameT, e1, Bool.false_eq_true, Bool.true_eq_false, reduceCtorEq, if_true, if_false, or_false, false_or, or_true, true_or, and_true, true_and, and_false, false_and, not_true_eq_false, not_false_eq_true, or_self, ← Int32.not_le, shiT]; done) | (rw [gameT_eq hS hc8 hc0 hF hP (by assumption) (by assumption)]; simp only [e1, Bool.false_eq_true, Bool.true_eq_false, reduceCtorEq, if_true, if_false, or_false, false_or, or_true, true_or, and_true, true_and, and_false, false_and, not_true_eq_false, not_false_eq_true, or_self, ← Int32.not_le, shiT]; done) | (rw [gameT_eq hS hc8 hc0 hF hP (by assumption) (by assumption)]; simp only [e1, Bool.false_eq_true, Bool.true_eq_false, reduceCtorEq, if_true, if_false, or_false, false_or, or_true, true_or, and_true, true_and, and_false, false_and, not_true_eq_false, not_false_eq_true, or_self, ← Int32.not_le, shiT]; rfl) | (rw [gameT_eq hS hc8 hc0 hF hP (by assumption) (by assumption)]; rfl)) (hW)⟩
  · have hS : S < 64 := by omega
    have hc8 : c < 8 := by omega
    have vc := hI.vc hcC
    have vs := hI.vs hSn
    refine aw_astore (pcn := 7) dX6_game_5 rfl (by decide) (rf_some _) ?_
    dsimp only [List.set_cons_zero, List.set_cons_succ]
    refine aw_aload (pcn := 9) dX6_game_7 rfl rfl (rf_some _) ?_
    refine aw_ifnull (t := 30) (pcn := 12) dX6_game_9 rfl (by decide) (rf_some _) (fun q3 => by cases q3) (fun a4 q3 => ?_)
    clear q3 a4
    refine aw_aload (pcn := 14) dX6_game_12 rfl rfl (rf_some _) ?_
    refine aw_ilo 2 (pcn := 15) rfl dX6_game_14 rfl rfl ?_
    obtain ⟨gs, hs, hgs⟩ := hW.st (s := S) vs hc8 hc0
    refine aw_Vi (pcn := 18) (c_hasM hW hI hSn hcC hc0 _) mf_X4_hasMember mv_X4_hasMember hs rfl ml_X6_127 rfl (by decide) (by decide) (by decide) (by exact Nat.le_of_ble_eq_true rfl) rfl dX6_game_15 rfl (fun r h2 hq => ?_)
    obtain ⟨rfl, hq⟩ := hq
    obtain rfl := hq.symm
    rw [hI.ofm hSn hcC hc0]
    refine aw_if_eqB (t := 30) (pcn := 21) dX6_game_18 rfl (by decide) (fun q5 => ?_) (fun q5 => ?_)
    · refine aw_iconst (v := -1) (pcn := 31) dX6_game_30 rfl (by decide) ?_
      exact aw_iret dX6_game_31 rfl ⟨_, rfl, ret3 (by first | (simp only [gameT, hst, q5, Bool.false_eq_true, Bool.true_eq_false, reduceCtorEq, if_true, if_false, or_false, false_or, or_true, true_or, and_true, true_and, and_false, false_and, not_true_eq_false, not_false_eq_true, or_self, ← Int32.not_le, shiT]; done) | (rw [gameT_eq hS hc8 hc0 hF hP (by assumption) (by assumption)]; simp only [hst, q5, Bool.false_eq_true, Bool.true_eq_false, reduceCtorEq, if_true, if_false, or_false, false_or, or_true, true_or, and_true, true_and, and_false, false_and, not_true_eq_false, not_false_eq_true, or_self, ← Int32.not_le, shiT]; done) | (rw [gameT_eq hS hc8 hc0 hF hP (by assumption) (by assumption)]; simp only [hst, q5, Bool.false_eq_true, Bool.true_eq_false, reduceCtorEq, if_true, if_false, or_false, false_or, or_true, true_or, and_true, true_and, and_false, false_and, not_true_eq_false, not_false_eq_true, or_self, ← Int32.not_le, shiT]; rfl) | (rw [gameT_eq hS hc8 hc0 hF hP (by assumption) (by assumption)]; rfl)) (hW)⟩
    · obtain ⟨F, hF, rfl⟩ := Iv.oOfP q5
      refine aw_aload (pcn := 23) dX6_game_21 rfl rfl (rf_some _) ?_
      refine aw_ilo 3 (pcn := 24) rfl dX6_game_23 rfl rfl ?_
      obtain ⟨gs, hs, hgs⟩ := hW.st (s := S) vs hc8 hc0
      refine aw_Vi (pcn := 27) (c_hasM hW hI hSn hcC hc0 _) mf_X4_hasMember mv_X4_hasMember hs rfl ml_X6_127 rfl (by decide) (by decide) (by decide) (by exact Nat.le_of_ble_eq_true rfl) rfl dX6_game_24 rfl (fun r h2 hq => ?_)
      obtain ⟨rfl, hq⟩ := hq
      obtain rfl := hq.symm
      rw [hI.ofm hSn hcC hc0]
      refine aw_if_neB (t := 32) (pcn := 30) dX6_game_27 rfl (by decide) (fun q6 => ?_) (fun q6 => ?_)
      · obtain ⟨P, hP, rfl⟩ := Iv.oOfP q6
        refine aw_aload (pcn := 34) dX6_game_32 rfl rfl (rf_some _) ?_
        obtain ⟨gs, hs, hgs⟩ := hW.st (s := S) vs hc8 hc0
        refine aw_Vi (pcn := 37) (c_isFixed hW hI hSn hcC hc0) mf_X4_isFixed mv_X4_isFixed hs rfl ml_X6_128 rfl (by decide) (by decide) (by decide) (by exact Nat.le_of_ble_eq_true rfl) rfl dX6_game_34 rfl (fun r h2 hq => ?_)
        obtain ⟨rfl, hq⟩ := hq
        obtain rfl := hq.symm
        refine aw_if_eqB (t := 43) (pcn := 40) dX6_game_37 rfl (by decide) (fun q7 => ?_) (fun q7 => ?_)
        · refine aw_iload (pcn := 45) dX6_game_43 rfl rfl ?_
          refine aw_iconst (v := nI 1) (pcn := 46) dX6_game_45 rfl (by decide) ?_
          refine aw_sipush (v := nI 10000) (pcn := 49) dX6_game_46 rfl (by decide) ?_
          refine aw_Si (pcn := 52) (c_isWithin _ _ _) mf_X6_isWithin mv_X6_isWithin ml_X6_42 rfl (by decide) (by decide) (by decide) (by exact Nat.le_of_ble_eq_true rfl) rfl dX6_game_49 rfl (fun r h2 hq => ?_)
          obtain ⟨rfl, hq⟩ := hq
          obtain rfl := hq.symm
          refine aw_if_eqB (t := 66) (pcn := 55) dX6_game_52 rfl (by decide) (fun q8 => ?_) (fun q8 => ?_)
          · refine aw_bipush (v := -3) (pcn := 68) dX6_game_66 rfl (by decide) ?_
            exact aw_iret dX6_game_68 rfl ⟨_, rfl, ret3 (by first | (simp only [gameT, hst, q5, q6, q7, q8, Bool.false_eq_true, Bool.true_eq_false, reduceCtorEq, if_true, if_false, or_false, false_or, or_true, true_or, and_true, true_and, and_false, false_and, not_true_eq_false, not_false_eq_true, or_self, ← Int32.not_le, shiT]; done) | (rw [gameT_eq hS hc8 hc0 hF hP (by assumption) (by assumption)]; simp only [hst, q5, q6, q7, q8, Bool.false_eq_true, Bool.true_eq_false, reduceCtorEq, if_true, if_false, or_false, false_or, or_true, true_or, and_true, true_and, and_false, false_and, not_true_eq_false, not_false_eq_true, or_self, ← Int32.not_le, shiT]; done) | (rw [gameT_eq hS hc8 hc0 hF hP (by assumption) (by assumption)]; simp only [hst, q5, q6, q7, q8, Bool.false_eq_true, Bool.true_eq_false, reduceCtorEq, if_true, if_false, or_false, false_or, or_true, true_or, and_true, true_and, and_false, false_and, not_true_eq_false, not_false_eq_true, or_self, ← Int32.not_le, shiT]; rfl) | (rw [gameT_eq hS hc8 hc0 hF hP (by assumption) (by assumption)]; rfl)) (hW)⟩
          · refine aw_iload (pcn := 57) dX6_game_55 rfl rfl ?_
            refine aw_iconst (v := nI 1) (pcn := 58) dX6_game_57 rfl (by decide) ?_
            refine aw_bipush (v := nI 20) (pcn := 60) dX6_game_58 rfl (by decide) ?_
            refine aw_Si (pcn := 63) (c_isWithin _ _ _) mf_X6_isWithin mv_X6_isWithin ml_X6_42 rfl (by decide) (by decide) (by decide) (by exact Nat.le_of_ble_eq_true rfl) rfl dX6_game_60 rfl (fun r h2 hq => ?_)
            obtain ⟨rfl, hq⟩ := hq
            obtain rfl := hq.symm
            refine aw_if_neB (t := 69) (pcn := 66) dX6_game_63 rfl (by decide) (fun q9 => ?_) (fun q9 => ?_)
            · refine aw_ilo 2 (pcn := 70) rfl dX6_game_69 rfl rfl ?_
              refine aw_ilo 3 (pcn := 71) rfl dX6_game_70 rfl rfl ?_
              refine aw_icmp_eq (t := 104) (pcn := 74) dX6_game_71 rfl (by decide) (fun q10 => ?_) (fun q10 => ?_)
              · refine aw_bipush (v := -4) (pcn := 106) dX6_game_104 rfl (by decide) ?_
                exact aw_iret dX6_game_106 rfl ⟨_, rfl, ret3 (by first | (simp only [gameT, hst, q5, q6, q7, q8, q9, q10, Bool.false_eq_true, Bool.true_eq_false, reduceCtorEq, if_true, if_false, or_false, false_or, or_true, true_or, and_true, true_and, and_false, false_and, not_true_eq_false, not_false_eq_true, or_self, ← Int32.not_le, shiT]; done) | (rw [gameT_eq hS hc8 hc0 hF hP (by assumption) (by assumption)]; simp only [hst, q5, q6, q7, q8, q9, q10, Bool.false_eq_true, Bool.true_eq_false, reduceCtorEq, if_true, if_false, or_false, false_or, or_true, true_or, and_true, true_and, and_false, false_and, not_true_eq_false, not_false_eq_true, or_self, ← Int32.not_le, shiT]; done) | (rw [gameT_eq hS hc8 hc0 hF hP (by assumption) (by assumption)]; simp only [hst, q5, q6, q7, q8, q9, q10, Bool.false_eq_true, Bool.true_eq_false, reduceCtorEq, if_true, if_false, or_false, false_or, or_true, true_or, and_true, true_and, and_false, false_and, not_true_eq_false, not_false_eq_true, or_self, ← Int32.not_le, shiT]; rfl) | (rw [gameT_eq hS hc8 hc0 hF hP (by assumption) (by assumption)]; rfl)) (hW)⟩
              · refine aw_aload (pcn := 76) dX6_game_74 rfl rfl (rf_some _) ?_
                obtain ⟨gs, hs, hgs⟩ := hW.st (s := S) vs hc8 hc0
                refine aw_getf (pcn := 79) fl_X6_170 dX6_game_76 rfl hs rfl ?_
                refine aw_ifnonnull (t := 104) (pcn := 82) dX6_game_79 rfl (by decide) rfl (fun a12 q11 => ?_) (fun q11 => ?_)
                · have hz := hgs.s q11
                  have hgz : ¬ T 19 (35 * S + 31) ≤ 0 := fun e => hz.1 (Int32.le_antisymm e (hI.st hSn).2.2.2.1.1)
                  refine aw_bipush (v := -4) (pcn := 106) dX6_game_104 rfl (by decide) ?_
                  exact aw_iret dX6_game_106 rfl ⟨_, rfl, ret3 (by first | (simp only [gameT, hst, q5, q6, q7, q8, q9, q10, hgz, Bool.false_eq_true, Bool.true_eq_false, reduceCtorEq, if_true, if_false, or_false, false_or, or_true, true_or, and_true, true_and, and_false, false_and, not_true_eq_false, not_false_eq_true, or_self, ← Int32.not_le, shiT]; done) | (rw [gameT_eq hS hc8 hc0 hF hP (by assumption) (by assumption)]; simp only [hst, q5, q6, q7, q8, q9, q10, hgz, Bool.false_eq_true, Bool.true_eq_false, reduceCtorEq, if_true, if_false, or_false, false_or, or_true, true_or, and_true, true_and, and_false, false_and, not_true_eq_false, not_false_eq_true, or_self, ← Int32.not_le, shiT]; done) | (rw [gameT_eq hS hc8 hc0 hF hP (by assumption) (by assumption)]; simp only [hst, q5, q6, q7, q8, q9, q10, hgz, Bool.false_eq_true, Bool.true_eq_false, reduceCtorEq, if_true, if_false, or_false, false_or, or_true, true_or, and_true, true_and, and_false, false_and, not_true_eq_false, not_false_eq_true, or_self, ← Int32.not_le, shiT]; rfl) | (rw [gameT_eq hS hc8 hc0 hF hP (by assumption) (by assumption)]; rfl)) (hW)⟩
                · have hz := hgs.n q11
                  have hgz : T 19 (35 * S + 31) ≤ 0 := by rw [hz]; exact Int32.le_refl _
                  refine aw_aload (pcn := 84) dX6_game_82 rfl rfl (rf_some _) ?_
                  refine aw_ilo 2 (pcn := 85) rfl dX6_game_84 rfl rfl ?_
                  obtain ⟨gs, hs, hgs⟩ := hW.st (s := S) vs hc8 hc0
                  refine aw_Vi (pcn := 88) (c_freeOf hW hI hSn hcC hc0 (P := _) (by omega)) mf_X4_freeOf mv_X4_freeOf hs rfl ml_X6_133 rfl (by decide) (by decide) (by decide) (by exact Nat.le_of_ble_eq_true rfl) rfl dX6_game_85 rfl (fun r h2 hq => ?_)
                  obtain ⟨rfl, hq⟩ := hq
                  obtain rfl := hq.symm
                  refine aw_iload (pcn := 90) dX6_game_88 rfl rfl ?_
                  refine aw_icmp_lt (t := 104) (pcn := 93) dX6_game_90 rfl (by decide) (fun q13 => ?_) (fun q13 => ?_)
                  · replace q13 := Int32.not_le.mpr q13
                    refine aw_bipush (v := -4) (pcn := 106) dX6_game_104 rfl (by decide) ?_
                    exact aw_iret dX6_game_106 rfl ⟨_, rfl, ret3 (by first | (simp only [gameT, hst, q5, q6, q7, q8, q9, q10, hgz, q13, Bool.false_eq_true, Bool.true_eq_false, reduceCtorEq, if_true, if_false, or_false, false_or, or_true, true_or, and_true, true_and, and_false, false_and, not_true_eq_false, not_false_eq_true, or_self, ← Int32.not_le, shiT]; done) | (rw [gameT_eq hS hc8 hc0 hF hP (by assumption) (by assumption)]; simp only [hst, q5, q6, q7, q8, q9, q10, hgz, q13, Bool.false_eq_true, Bool.true_eq_false, reduceCtorEq, if_true, if_false, or_false, false_or, or_true, true_or, and_true, true_and, and_false, false_and, not_true_eq_false, not_false_eq_true, or_self, ← Int32.not_le, shiT]; done) | (rw [gameT_eq hS hc8 hc0 hF hP (by assumption) (by assumption)]; simp only [hst, q5, q6, q7, q8, q9, q10, hgz, q13, Bool.false_eq_true, Bool.true_eq_false, reduceCtorEq, if_true, if_false, or_false, false_or, or_true, true_or, and_true, true_and, and_false, false_and, not_true_eq_false, not_false_eq_true, or_self, ← Int32.not_le, shiT]; rfl) | (rw [gameT_eq hS hc8 hc0 hF hP (by assumption) (by assumption)]; rfl)) (hW)⟩
                  · replace q13 := Int32.not_lt.mp q13
                    refine aw_aload (pcn := 95) dX6_game_93 rfl rfl (rf_some _) ?_
                    refine aw_ilo 3 (pcn := 96) rfl dX6_game_95 rfl rfl ?_
                    obtain ⟨gs, hs, hgs⟩ := hW.st (s := S) vs hc8 hc0
                    refine aw_Vi (pcn := 99) (c_freeOf hW hI hSn hcC hc0 (P := _) (by omega)) mf_X4_freeOf mv_X4_freeOf hs rfl ml_X6_133 rfl (by decide) (by decide) (by decide) (by exact Nat.le_of_ble_eq_true rfl) rfl dX6_game_96 rfl (fun r h2 hq => ?_)
                    obtain ⟨rfl, hq⟩ := hq
                    obtain rfl := hq.symm
                    refine aw_iload (pcn := 101) dX6_game_99 rfl rfl ?_
                    refine aw_icmp_ge (t := 107) (pcn := 104) dX6_game_101 rfl (by decide) (fun q14 => ?_) (fun q14 => ?_)
                    · refine aw_aload (pcn := 109) dX6_game_107 rfl rfl (rf_some _) ?_
                      obtain ⟨gs, hs, hgs⟩ := hW.st (s := S) vs hc8 hc0
                      refine aw_getf (pcn := 112) fl_X6_80 dX6_game_109 rfl hs rfl ?_
                      refine aw_ilo 2 (pcn := 113) rfl dX6_game_112 rfl rfl ?_
                      refine aw_iload (pcn := 115) dX6_game_113 rfl rfl ?_
                      refine aw_ineg (pcn := 116) dX6_game_115 rfl ?_
                      obtain ⟨fs, hsh1, hsh2, hsh3⟩ := hW.sh (s := S) vs
                      refine aw_Vv (pcn := 119) (c_add0 hsh1 hsh2 (P := F) (by omega) _) mf_X5_add mv_X5_add hsh1 rfl ml_X6_74 rfl (by decide) (by decide) (by decide) (by exact Nat.le_of_ble_eq_true rfl) rfl dX6_game_116 rfl (fun h hq => ?_)
                      have hW := hW.shW (s := S) vs hsh3 (p := F) (by omega) (fs F + -v)
                      rw [← hq] at hW
                      clear hq
                      rw [hsh3 F (by omega)] at hW
                      have hc0o := hc0
                      have hc0 : (up T 19 (35 * S + 4 + F) (T 19 (35 * S + 4 + F) + -v)) 19 (35 * S + 0) = nI c := by rw [up_i _ _ _ (by omega)]; exact hc0
                      refine aw_aload (pcn := 121) dX6_game_119 rfl rfl (rf_some _) ?_
                      obtain ⟨gs, hs, hgs⟩ := hW.st (s := S) vs hc8 hc0
                      refine aw_getf (pcn := 124) fl_X6_80 dX6_game_121 rfl hs rfl ?_
                      refine aw_ilo 3 (pcn := 125) rfl dX6_game_124 rfl rfl ?_
                      refine aw_iload (pcn := 127) dX6_game_125 rfl rfl ?_
                      refine aw_ineg (pcn := 128) dX6_game_127 rfl ?_
                      obtain ⟨fs, hsh1, hsh2, hsh3⟩ := hW.sh (s := S) vs
                      refine aw_Vv (pcn := 131) (c_add0 hsh1 hsh2 (P := P) (by omega) _) mf_X5_add mv_X5_add hsh1 rfl ml_X6_74 rfl (by decide) (by decide) (by decide) (by exact Nat.le_of_ble_eq_true rfl) rfl dX6_game_128 rfl (fun h hq => ?_)
                      have hW := hW.shW (s := S) vs hsh3 (p := P) (by omega) (fs P + -v)
                      rw [← hq] at hW
                      clear hq
                      rw [hsh3 P (by omega)] at hW
                      have hc0 : (up (up T 19 (35 * S + 4 + F) (T 19 (35 * S + 4 + F) + -v)) 19 (35 * S + 4 + P) ((up T 19 (35 * S + 4 + F) (T 19 (35 * S + 4 + F) + -v)) 19 (35 * S + 4 + P) + -v)) 19 (35 * S + 0) = nI c := by rw [up_i _ _ _ (by omega)]; exact hc0
                      obtain ⟨V, hV0, hV1, hV2⟩ := inRp (v := v) (b := 10000) (by decide) (by assumption)
                      refine aw_new 4 (pcn := 134) nw_X6_174 rfl dX6_game_131 rfl (by decide) (by decide) (fun a za => ?_)
                      refine aw_dup (pcn := 135) dX6_game_134 rfl rfl ?_
                      refine aw_ilo 2 (pcn := 136) rfl dX6_game_135 rfl rfl ?_
                      refine aw_ilo 3 (pcn := 137) rfl dX6_game_136 rfl rfl ?_
                      refine aw_iconst (v := nI 2) (pcn := 138) dX6_game_137 rfl (by decide) ?_
                      refine aw_iload (pcn := 140) dX6_game_138 rfl rfl ?_
                      refine aw_imul (pcn := 141) dX6_game_140 rfl ?_
                      refine aw_iload (pcn := 143) dX6_game_141 rfl rfl ?_
                      refine aw_Iv (rty := none) (pcn := 146) (c_Game (hup_s _ _ _) (nI F) (nI P) (nI 2 * v) e) mf_X1_init mv_X1_init rfl ml_X6_176 rfl (by decide) (by decide) (by decide) (by exact Nat.le_of_ble_eq_true rfl) rfl dX6_game_143 rfl (fun h2 hq => ?_)
                      rw [hup_hup] at hq
                      have hW := hW.made (c := ob 1 [.int (nI F), .int (nI P), .int (nI 2 * v), .int e]) za
                      rw [← hq] at hW
                      have hgm : h2 a = some (ob 1 [.int (nI F), .int (nI P), .int (nI 2 * v), .int e]) := by rw [hq]; exact hup_s _ _ _
                      refine aw_astore (pcn := 148) dX6_game_146 rfl (by decide) (rf_some _) ?_
                      dsimp only [List.set_cons_zero, List.set_cons_succ]
                      refine aw_aload (pcn := 150) dX6_game_148 rfl rfl (rf_some _) ?_
                      refine aw_aload (pcn := 152) dX6_game_150 rfl rfl (rf_some _) ?_
                      obtain ⟨gs, hs, hgs⟩ := hW.st (s := S) vs hc8 hc0
                      refine aw_putS (pcn := 155) (T' := gsU (up (up T 19 (35 * S + 4 + F) (T 19 (35 * S + 4 + F) + -v)) 19 (35 * S + 4 + P) ((up T 19 (35 * S + 4 + F) (T 19 (35 * S + 4 + F) + -v)) 19 (35 * S + 4 + P) + -v)) S (nI 2 * v) e (nI F) (nI P)) (g' := some a) hW vs hs fp_X6_170 (by decide) (VF.o _ (some _)) (ss_6 _ _ _ (some a) _ _ _ _ _ _) (by rw [stG_gs]; exact hW.stGm vs hc8 hc0 ⟨fun q => absurd q (by rw [hV2, pk_mul]; exact nI_ne0 (by omega) (by omega)), fun _ => ⟨a, rfl, hgm⟩⟩) dX6_game_152 rfl (fun h hW hk => ?_)
                      have hgm := hk.gm hgm
                      refine aw_aload (pcn := 157) dX6_game_155 rfl rfl (rf_some _) ?_
                      refine aw_getf (pcn := 160) fl_X6_179 dX6_game_157 rfl hgm rfl ?_
                      exact aw_iret dX6_game_160 rfl ⟨_, rfl, ret3 (by rw [gameT_eq hS hc8 hc0o hF hP (by assumption) (by assumption)]; simp only [hst, q5, q6, q7, q8, q9, q10, hgz, q13, q14, Bool.false_eq_true, Bool.true_eq_false, reduceCtorEq, if_true, if_false, or_false, false_or, or_true, true_or, and_true, true_and, and_false, false_and, not_true_eq_false, not_false_eq_true, or_self, ← Int32.not_le, shiT]; rw [gamT_eq, Int32.sub_eq_add_neg, Int32.sub_eq_add_neg]) hW⟩
                    · refine aw_bipush (v := -4) (pcn := 106) dX6_game_104 rfl (by decide) ?_
                      exact aw_iret dX6_game_106 rfl ⟨_, rfl, ret3 (by first | (simp only [gameT, hst, q5, q6, q7, q8, q9, q10, hgz, q13, q14, Bool.false_eq_true, Bool.true_eq_false, reduceCtorEq, if_true, if_false, or_false, false_or, or_true, true_or, and_true, true_and, and_false, false_and, not_true_eq_false, not_false_eq_true, or_self, ← Int32.not_le, shiT]; done) | (rw [gameT_eq hS hc8 hc0 hF hP (by assumption) (by assumption)]; simp only [hst, q5, q6, q7, q8, q9, q10, hgz, q13, q14, Bool.false_eq_true, Bool.true_eq_false, reduceCtorEq, if_true, if_false, or_false, false_or, or_true, true_or, and_true, true_and, and_false, false_and, not_true_eq_false, not_false_eq_true, or_self, ← Int32.not_le, shiT]; done) | (rw [gameT_eq hS hc8 hc0 hF hP (by assumption) (by assumption)]; simp only [hst, q5, q6, q7, q8, q9, q10, hgz, q13, q14, Bool.false_eq_true, Bool.true_eq_false, reduceCtorEq, if_true, if_false, or_false, false_or, or_true, true_or, and_true, true_and, and_false, false_and, not_true_eq_false, not_false_eq_true, or_self, ← Int32.not_le, shiT]; rfl) | (rw [gameT_eq hS hc8 hc0 hF hP (by assumption) (by assumption)]; rfl)) (hW)⟩
            · refine aw_bipush (v := -3) (pcn := 68) dX6_game_66 rfl (by decide) ?_
              exact aw_iret dX6_game_68 rfl ⟨_, rfl, ret3 (by first | (simp only [gameT, hst, q5, q6, q7, q8, q9, Bool.false_eq_true, Bool.true_eq_false, reduceCtorEq, if_true, if_false, or_false, false_or, or_true, true_or, and_true, true_and, and_false, false_and, not_true_eq_false, not_false_eq_true, or_self, ← Int32.not_le, shiT]; done) | (rw [gameT_eq hS hc8 hc0 hF hP (by assumption) (by assumption)]; simp only [hst, q5, q6, q7, q8, q9, Bool.false_eq_true, Bool.true_eq_false, reduceCtorEq, if_true, if_false, or_false, false_or, or_true, true_or, and_true, true_and, and_false, false_and, not_true_eq_false, not_false_eq_true, or_self, ← Int32.not_le, shiT]; done) | (rw [gameT_eq hS hc8 hc0 hF hP (by assumption) (by assumption)]; simp only [hst, q5, q6, q7, q8, q9, Bool.false_eq_true, Bool.true_eq_false, reduceCtorEq, if_true, if_false, or_false, false_or, or_true, true_or, and_true, true_and, and_false, false_and, not_true_eq_false, not_false_eq_true, or_self, ← Int32.not_le, shiT]; rfl) | (rw [gameT_eq hS hc8 hc0 hF hP (by assumption) (by assumption)]; rfl)) (hW)⟩
        · refine aw_bipush (v := -2) (pcn := 42) dX6_game_40 rfl (by decide) ?_
          exact aw_iret dX6_game_42 rfl ⟨_, rfl, ret3 (by first | (simp only [gameT, hst, q5, q6, q7, Bool.false_eq_true, Bool.true_eq_false, reduceCtorEq, if_true, if_false, or_false, false_or, or_true, true_or, and_true, true_and, and_false, false_and, not_true_eq_false, not_false_eq_true, or_self, ← Int32.not_le, shiT]; done) | (rw [gameT_eq hS hc8 hc0 hF hP (by assumption) (by assumption)]; simp only [hst, q5, q6, q7, Bool.false_eq_true, Bool.true_eq_false, reduceCtorEq, if_true, if_false, or_false, false_or, or_true, true_or, and_true, true_and, and_false, false_and, not_true_eq_false, not_false_eq_true, or_self, ← Int32.not_le, shiT]; done) | (rw [gameT_eq hS hc8 hc0 hF hP (by assumption) (by assumption)]; simp only [hst, q5, q6, q7, Bool.false_eq_true, Bool.true_eq_false, reduceCtorEq, if_true, if_false, or_false, false_or, or_true, true_or, and_true, true_and, and_false, false_and, not_true_eq_false, not_false_eq_true, or_self, ← Int32.not_le, shiT]; rfl) | (rw [gameT_eq hS hc8 hc0 hF hP (by assumption) (by assumption)]; rfl)) (hW)⟩
      · refine aw_iconst (v := -1) (pcn := 31) dX6_game_30 rfl (by decide) ?_
        exact aw_iret dX6_game_31 rfl ⟨_, rfl, ret3 (by first | (simp only [gameT, hst, q5, q6, Bool.false_eq_true, Bool.true_eq_false, reduceCtorEq, if_true, if_false, or_false, false_or, or_true, true_or, and_true, true_and, and_false, false_and, not_true_eq_false, not_false_eq_true, or_self, ← Int32.not_le, shiT]; done) | (rw [gameT_eq hS hc8 hc0 hF hP (by assumption) (by assumption)]; simp only [hst, q5, q6, Bool.false_eq_true, Bool.true_eq_false, reduceCtorEq, if_true, if_false, or_false, false_or, or_true, true_or, and_true, true_and, and_false, false_and, not_true_eq_false, not_false_eq_true, or_self, ← Int32.not_le, shiT]; done) | (rw [gameT_eq hS hc8 hc0 hF hP (by assumption) (by assumption)]; simp only [hst, q5, q6, Bool.false_eq_true, Bool.true_eq_false, reduceCtorEq, if_true, if_false, or_false, false_or, or_true, true_or, and_true, true_and, and_false, false_and, not_true_eq_false, not_false_eq_true, or_self, ← Int32.not_le, shiT]; rfl) | (rw [gameT_eq hS hc8 hc0 hF hP (by assumption) (by assumption)]; rfl)) (hW)⟩

set_option maxHeartbeats 1600000 in
set_option maxRecDepth 20000 in
theorem c_a_show {X : XG} {l : Launch} {Γ : NM} {ow : Nat → Nat × Nat} {h : Hp} {T Tr : TB} {nh : Nat} (hW : WD Γ ow h T Tr nh) {i C n Z hN : Nat} (hI : Iv i T C n Z hN) (s f : Int32) : AM X l yX6_show cX6_show 5 (some .int) 3 0 0 [.ref (Γ 0 0), .int s, .int f] h (qi fun r h' => r = (showT T s f).1 ∧ WD Γ ow h' (showT T s f).2 Tr nh) := by
  refine AM.of (by decide +kernel) (by simp [Value.category]) (Nat.le_of_ble_eq_true rfl) ?_
  show AW X l cX6_show RX6 "show" (some .int) 5 3 none _ 0 0 0 [some (.ref (Γ 0 0)), some (.int s), some (.int f), none, none] [] h
  have h64 := hI.n64
  have h8 := hI.C8
  have h16 := hI.Z16
  have h4 := hI.h4
  refine aw_alo 0 (pcn := 1) rfl dX6_show_0 rfl rfl (rf_some _) ?_
  refine aw_ilo 1 (pcn := 2) rfl dX6_show_1 rfl rfl ?_
  refine aw_Vr (pcn := 5) (c_stateAt hW hI _) mf_X6_stateAt mv_X6_stateAt hW.sc rfl ml_X6_123 rfl (by decide) (by decide) (by decide) (by exact Nat.le_of_ble_eq_true rfl) rfl dX6_show_2 rfl (fun r h2 hq => ?_)
  obtain ⟨hq, hh⟩ := hq
  obtain rfl := hh.symm
  rcases hq with ⟨e0, rfl⟩ | ⟨S, c, hSn, hcC, hc0, rfl, hst, rfl⟩
  · have e1 : isOfT T s f = false := of_no e0 f
    refine aw_ast 3 (pcn := 6) rfl dX6_show_5 rfl (by decide) (rf_none) ?_
    dsimp only [List.set_cons_zero, List.set_cons_succ]
    refine aw_alo 3 (pcn := 7) rfl dX6_show_6 rfl rfl (rf_none) ?_
    refine aw_ifnull (t := 18) (pcn := 10) dX6_show_7 rfl (by decide) (rf_none) (fun q1 => ?_) (fun a2 q1 => by cases q1)
    clear q1
    refine aw_iconst (v := -1) (pcn := 19) dX6_show_18 rfl (by decide) ?_
    exact aw_iret dX6_show_19 rfl ⟨_, rfl, ret3 (by first | (simp only [showT, e1, Bool.false_eq_true, Bool.true_eq_false, reduceCtorEq, if_true, if_false, or_false, false_or, or_true, true_or, and_true, true_and, and_false, false_and, not_true_eq_false, not_false_eq_true, or_self, ← Int32.not_le, shiT]; done) | (rw [showT_eq hS hc8 hc0 hF (by assumption)]; simp only [e1, Bool.false_eq_true, Bool.true_eq_false, reduceCtorEq, if_true, if_false, or_false, false_or, or_true, true_or, and_true, true_and, and_false, false_and, not_true_eq_false, not_false_eq_true, or_self, ← Int32.not_le, shiT]; done) | (rw [showT_eq hS hc8 hc0 hF (by assumption)]; simp only [e1, Bool.false_eq_true, Bool.true_eq_false, reduceCtorEq, if_true, if_false, or_false, false_or, or_true, true_or, and_true, true_and, and_false, false_and, not_true_eq_false, not_false_eq_true, or_self, ← Int32.not_le, shiT]; rfl) | (rw [showT_eq hS hc8 hc0 hF (by assumption)]; rfl)) hW⟩
  · have hS : S < 64 := by omega
    have hc8 : c < 8 := by omega
    have vc := hI.vc hcC
    have vs := hI.vs hSn
    refine aw_ast 3 (pcn := 6) rfl dX6_show_5 rfl (by decide) (rf_some _) ?_
    dsimp only [List.set_cons_zero, List.set_cons_succ]
    refine aw_alo 3 (pcn := 7) rfl dX6_show_6 rfl rfl (rf_some _) ?_
    refine aw_ifnull (t := 18) (pcn := 10) dX6_show_7 rfl (by decide) (rf_some _) (fun q3 => by cases q3) (fun a4 q3 => ?_)
    clear q3 a4
    refine aw_alo 3 (pcn := 11) rfl dX6_show_10 rfl rfl (rf_some _) ?_
    refine aw_ilo 2 (pcn := 12) rfl dX6_show_11 rfl rfl ?_
    obtain ⟨gs, hs, hgs⟩ := hW.st (s := S) vs hc8 hc0
    refine aw_Vi (pcn := 15) (c_hasM hW hI hSn hcC hc0 _) mf_X4_hasMember mv_X4_hasMember hs rfl ml_X6_127 rfl (by decide) (by decide) (by decide) (by exact Nat.le_of_ble_eq_true rfl) rfl dX6_show_12 rfl (fun r h2 hq => ?_)
    obtain ⟨rfl, hq⟩ := hq
    obtain rfl := hq.symm
    rw [hI.ofm hSn hcC hc0]
    refine aw_if_neB (t := 20) (pcn := 18) dX6_show_15 rfl (by decide) (fun q5 => ?_) (fun q5 => ?_)
    · obtain ⟨F, hF, rfl⟩ := Iv.oOfP q5
      refine aw_alo 3 (pcn := 21) rfl dX6_show_20 rfl rfl (rf_some _) ?_
      obtain ⟨gs, hs, hgs⟩ := hW.st (s := S) vs hc8 hc0
      refine aw_getf (pcn := 24) fl_X6_195 dX6_show_21 rfl hs rfl ?_
      refine aw_astore (pcn := 26) dX6_show_24 rfl (by decide) (rf_some _) ?_
      dsimp only [List.set_cons_zero, List.set_cons_succ]
      refine aw_aload (pcn := 28) dX6_show_26 rfl rfl (rf_some _) ?_
      obtain ⟨g, hc, hg⟩ := hW.ch (c := c) vc
      refine aw_getf (pcn := 31) fl_X6_97 dX6_show_28 rfl hc rfl ?_
      refine aw_iconst (v := nI 3) (pcn := 32) dX6_show_31 rfl (by decide) ?_
      refine aw_icmp_ne (t := 38) (pcn := 35) dX6_show_32 rfl (by decide) (fun q6 => ?_) (fun q6 => ?_)
      · refine aw_alo 3 (pcn := 39) rfl dX6_show_38 rfl rfl (rf_some _) ?_
        obtain ⟨gs, hs, hgs⟩ := hW.st (s := S) vs hc8 hc0
        refine aw_Vi (pcn := 42) (c_doesCount hW hI hSn hcC hc0) mf_X4_doesCount mv_X4_doesCount hs rfl ml_X6_202 rfl (by decide) (by decide) (by decide) (by exact Nat.le_of_ble_eq_true rfl) rfl dX6_show_39 rfl (fun r h2 hq => ?_)
        obtain ⟨rfl, hq⟩ := hq
        obtain rfl := hq.symm
        refine aw_if_eqB (t := 54) (pcn := 45) dX6_show_42 rfl (by decide) (fun q7 => ?_) (fun q7 => ?_)
        · refine aw_bipush (v := -4) (pcn := 56) dX6_show_54 rfl (by decide) ?_
          exact aw_iret dX6_show_56 rfl ⟨_, rfl, ret3 (by rw [showT_eq hS hc8 hc0 hF (by assumption), if_neg q6, if_pos (Or.inl q7)]) hW⟩
        · refine aw_aload (pcn := 47) dX6_show_45 rfl rfl (rf_some _) ?_
          refine aw_alo 3 (pcn := 48) rfl dX6_show_47 rfl rfl (rf_some _) ?_
          obtain ⟨g, hc, hg⟩ := hW.ch (c := c) vc
          refine aw_Vi (pcn := 51) (c_wouldTake hW hI hSn hcC hc0) mf_X0_wouldTake mv_X0_wouldTake hc rfl ml_X6_205 rfl (by decide) (by decide) (by decide) (by exact Nat.le_of_ble_eq_true rfl) rfl dX6_show_48 rfl (fun r h2 hq => ?_)
          obtain ⟨rfl, hq⟩ := hq
          obtain rfl := hq.symm
          refine aw_if_neB (t := 57) (pcn := 54) dX6_show_51 rfl (by decide) (fun q8 => ?_) (fun q8 => ?_)
          · have hwt : T 9 c = nI 1 ∨ T 19 (35 * ix (T 10 c) + 1) < T 19 (35 * S + 1) := by
              rw [Bool.or_eq_true, Bool.and_eq_true] at q8
              rcases q8 with a | a
              · exact Or.inl (of_decide_eq_true a)
              · exact Or.inr (of_decide_eq_true a.2)
            have hwn : T 9 c = nI 2 → T 19 (35 * S + 1) ≤ T 19 (35 * ix (T 10 c) + 1) → False := fun x y => by
              rcases hwt with a | a
              · rw [x] at a; exact absurd a (by decide)
              · exact Int32.lt_irrefl (Int32.lt_of_lt_of_le a y)
            refine aw_alo 0 (pcn := 58) rfl dX6_show_57 rfl rfl (rf_some _) ?_
            refine aw_alo 3 (pcn := 59) rfl dX6_show_58 rfl rfl (rf_some _) ?_
            refine aw_Vv (pcn := 62) (c_makeShown hW (S := S) (c := c) hS vs hc8 vc hc0 hwt) mf_X6_makeShown mv_X6_makeShown hW.sc rfl ml_X6_209 rfl (by decide) (by decide) (by decide) (by exact Nat.le_of_ble_eq_true rfl) rfl dX6_show_59 rfl (fun h hW => ?_)
            have vc : c < ix (showsT T c S 5 0) := by rw [showsT_j _ _ _ _ (by decide)]; exact vc
            have vc := vc
            refine aw_aload (pcn := 64) dX6_show_62 rfl rfl (rf_some _) ?_
            obtain ⟨g, hc, hg⟩ := hW.ch (c := c) vc
            refine aw_getf (pcn := 67) fl_X6_212 dX6_show_64 rfl hc rfl ?_
            exact aw_iret dX6_show_67 rfl ⟨_, rfl, ret3 (T' := showsT T c S) (by rw [showT_eq hS hc8 hc0 hF (by assumption), shows_26 hI hcC q6]; rw [if_neg q6, if_neg (by rintro (x | ⟨x, y⟩); rw [q7] at x; cases x; exact hwn x y)]) hW⟩
          · have hwn : T 9 c = nI 2 ∧ T 19 (35 * S + 1) ≤ T 19 (35 * ix (T 10 c) + 1) := by
              rw [Bool.or_eq_false_iff, Bool.and_eq_false_iff] at q8
              have a1 := of_decide_eq_false q8.1
              have a2 : T 9 c = nI 2 := ((hI.ch hcC).2.2.1.resolve_left a1).resolve_right q6
              refine ⟨a2, ?_⟩
              rcases q8.2 with x | x
              · exact absurd a2 (of_decide_eq_false x)
              · exact Int32.not_lt.mp (of_decide_eq_false x)
            refine aw_bipush (v := -4) (pcn := 56) dX6_show_54 rfl (by decide) ?_
            exact aw_iret dX6_show_56 rfl ⟨_, rfl, ret3 (by rw [showT_eq hS hc8 hc0 hF (by assumption), if_neg q6, if_pos (Or.inr hwn)]) hW⟩
      · refine aw_bipush (v := -2) (pcn := 37) dX6_show_35 rfl (by decide) ?_
        exact aw_iret dX6_show_37 rfl ⟨_, rfl, ret3 (by first | (simp only [showT, hst, q5, q6, Bool.false_eq_true, Bool.true_eq_false, reduceCtorEq, if_true, if_false, or_false, false_or, or_true, true_or, and_true, true_and, and_false, false_and, not_true_eq_false, not_false_eq_true, or_self, ← Int32.not_le, shiT]; done) | (rw [showT_eq hS hc8 hc0 hF (by assumption)]; simp only [hst, q5, q6, Bool.false_eq_true, Bool.true_eq_false, reduceCtorEq, if_true, if_false, or_false, false_or, or_true, true_or, and_true, true_and, and_false, false_and, not_true_eq_false, not_false_eq_true, or_self, ← Int32.not_le, shiT]; done) | (rw [showT_eq hS hc8 hc0 hF (by assumption)]; simp only [hst, q5, q6, Bool.false_eq_true, Bool.true_eq_false, reduceCtorEq, if_true, if_false, or_false, false_or, or_true, true_or, and_true, true_and, and_false, false_and, not_true_eq_false, not_false_eq_true, or_self, ← Int32.not_le, shiT]; rfl) | (rw [showT_eq hS hc8 hc0 hF (by assumption)]; rfl)) hW⟩
    · refine aw_iconst (v := -1) (pcn := 19) dX6_show_18 rfl (by decide) ?_
      exact aw_iret dX6_show_19 rfl ⟨_, rfl, ret3 (by first | (simp only [showT, hst, q5, Bool.false_eq_true, Bool.true_eq_false, reduceCtorEq, if_true, if_false, or_false, false_or, or_true, true_or, and_true, true_and, and_false, false_and, not_true_eq_false, not_false_eq_true, or_self, ← Int32.not_le, shiT]; done) | (rw [showT_eq hS hc8 hc0 hF (by assumption)]; simp only [hst, q5, Bool.false_eq_true, Bool.true_eq_false, reduceCtorEq, if_true, if_false, or_false, false_or, or_true, true_or, and_true, true_and, and_false, false_and, not_true_eq_false, not_false_eq_true, or_self, ← Int32.not_le, shiT]; done) | (rw [showT_eq hS hc8 hc0 hF (by assumption)]; simp only [hst, q5, Bool.false_eq_true, Bool.true_eq_false, reduceCtorEq, if_true, if_false, or_false, false_or, or_true, true_or, and_true, true_and, and_false, false_and, not_true_eq_false, not_false_eq_true, or_self, ← Int32.not_le, shiT]; rfl) | (rw [showT_eq hS hc8 hc0 hF (by assumption)]; rfl)) hW⟩
