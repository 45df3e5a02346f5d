/-! the reference's face -/
theorem Iv.nw {i : Nat} {T : TB} {C n Z hN : Nat} (H : Iv i T C n Z hN) {c : Nat} (hc : c < C) (hp : ¬ T 9 c = nI 3) : nwT T c n = nI (ix (nwT T c n)) ∧ ix (nwT T c n) < n := by
  have h64 := H.n64
  obtain ⟨_, _, _, _, _, _, _, hw, _⟩ := H.ch hc
  obtain ⟨_, s, h1, h2⟩ := hw hp
  rw [h2, ix_nI (by omega)]
  exact ⟨rfl, h1⟩
theorem ph21 {x : Int32} (h : x = nI 2) : ¬ x = nI 1 := by rw [h]; decide
theorem ep_nI {T : TB} {S : Nat} (h : ¬ epT T S = -1) : ∃ K, K < 3 ∧ epT T S = nI K := by
  unfold epT at h ⊢
  split
  · exact ⟨0, by decide, rfl⟩
  · split
    · exact ⟨1, by decide, rfl⟩
    · split
      · exact ⟨2, by decide, rfl⟩
      · rename_i h1 h2 h3
        rw [if_neg h1, if_neg h2, if_neg h3] at h
        exact absurd rfl h
theorem isLT_nI {T : TB} {s : Nat} {k : Int32} (h : isLT T s k = true) : ∃ K, K < 3 ∧ k = nI K ∧ 0 < lkT T s K 0 := by
  unfold isLT at h
  rw [Bool.and_eq_true] at h
  obtain ⟨K, h1, h2⟩ := inR_nI (by decide) h.1
  refine ⟨K, by omega, h2, ?_⟩
  have := h.2
  rw [h2, ix_nI (by omega)] at this
  exact of_decide_eq_true this
set_option maxHeartbeats 8000000 in
set_option maxRecDepth 20000 in
theorem r_a_change {X : XG} {l : Launch} {Γ : NM} {ow : Nat → Nat × Nat} {h : Hp} {T Tr : TB} {nh : Nat} (hW : WD Γ ow h T Tr nh) {i C n Z hN : Nat} (hI : Iv i Tr C n Z hN) (s f t v : Int32) : AM X l yX7_change cX7_change 5 (some .int) 4 0 0 [.ref (Γ 14 0), .int s, .int f, .int t, .int v] h (qi fun r h' => r = (changeT Tr s f t v).1 ∧ WD Γ ow h' T (changeT Tr s f t v).2 nh) := by
  refine AM.of (by decide +kernel) (by simp [Value.category]) (Nat.le_of_ble_eq_true rfl) ?_
  show AW X l cX7_change RX7 "change" (some .int) 5 4 none _ 0 0 0 [some (.ref (Γ 14 0)), some (.int s), some (.int f), some (.int t), some (.int v)] [] h
  have h64 := hI.n64
  have h8 := hI.C8
  have h16 := hI.Z16
  have h4 := hI.h4
  refine aw_alo 0 (pcn := 1) rfl dX7_change_0 rfl rfl (rf_some _) ?_
  refine aw_ilo 1 (pcn := 2) rfl dX7_change_1 rfl rfl ?_
  refine aw_ilo 2 (pcn := 3) rfl dX7_change_2 rfl rfl ?_
  refine aw_Vi (pcn := 6) (r_isOf hW hI.oST' _) mf_X7_isOf mv_X7_isOf hW.mo rfl ml_X7_155 rfl (by decide) (by decide) (by decide) (by exact Nat.le_of_ble_eq_true rfl) rfl dX7_change_3 rfl (fun r h2 hq => ?_)
  obtain ⟨rfl, hq⟩ := hq
  obtain rfl := hq.symm
  refine aw_if_eqB (t := 18) (pcn := 9) dX7_change_6 rfl (by decide) (fun q1 => ?_) (fun q1 => ?_)
  · refine aw_iconst (v := -1) (pcn := 19) dX7_change_18 rfl (by decide) ?_
    exact aw_iret dX7_change_19 rfl ⟨_, rfl, ret2 (by first | (simp only [changeT, q1, Bool.false_eq_true, Bool.true_eq_false, reduceCtorEq, if_true, if_false, or_false, false_or, or_true, true_or, and_true, true_and, and_false, false_and, not_true_eq_false, not_false_eq_true, or_self, ← Int32.not_le, frT, isCT, isST, isPT, isZT, shiT]; done) | (rw [changeT_eq hS hc8 hc0 hF hP (by assumption) (by assumption)]; simp only [q1, Bool.false_eq_true, Bool.true_eq_false, reduceCtorEq, if_true, if_false, or_false, false_or, or_true, true_or, and_true, true_and, and_false, false_and, not_true_eq_false, not_false_eq_true, or_self, ← Int32.not_le, frT, isCT, isST, isPT, isZT, shiT]; done) | (rw [changeT_eq hS hc8 hc0 hF hP (by assumption) (by assumption)]; simp only [q1, Bool.false_eq_true, Bool.true_eq_false, reduceCtorEq, if_true, if_false, or_false, false_or, or_true, true_or, and_true, true_and, and_false, false_and, not_true_eq_false, not_false_eq_true, or_self, ← Int32.not_le, frT, isCT, isST, isPT, isZT, shiT]; rfl) | (rw [changeT_eq hS hc8 hc0 hF hP (by assumption) (by assumption)]; rfl)) (hW)⟩
  · obtain ⟨S, c, F, rfl, rfl, hSn, hcC, hF, hc0, hm1⟩ := hI.oOf q1
    have hS : S < 64 := by omega
    have hc8 : c < 8 := by omega
    refine aw_alo 0 (pcn := 10) rfl dX7_change_9 rfl rfl (rf_some _) ?_
    refine aw_ilo 1 (pcn := 11) rfl dX7_change_10 rfl rfl ?_
    refine aw_ilo 3 (pcn := 12) rfl dX7_change_11 rfl rfl ?_
    refine aw_Vi (pcn := 15) (r_isOf hW hI.oST' _) mf_X7_isOf mv_X7_isOf hW.mo rfl ml_X7_155 rfl (by decide) (by decide) (by decide) (by exact Nat.le_of_ble_eq_true rfl) rfl dX7_change_12 rfl (fun r h2 hq => ?_)
    obtain ⟨rfl, hq⟩ := hq
    obtain rfl := hq.symm
    refine aw_if_neB (t := 20) (pcn := 18) dX7_change_15 rfl (by decide) (fun q2 => ?_) (fun q2 => ?_)
    · obtain ⟨P, hP, rfl⟩ := Iv.oOfP q2
      refine aw_alo 0 (pcn := 21) rfl dX7_change_20 rfl rfl (rf_some _) ?_
      refine aw_ilo 1 (pcn := 22) rfl dX7_change_21 rfl rfl ?_
      refine aw_Vi (pcn := 25) (r_isFixed hW (S := S) (c := c) hS hc8 hc0) mf_X7_isFixed mv_X7_isFixed hW.mo rfl ml_X7_158 rfl (by decide) (by decide) (by decide) (by exact Nat.le_of_ble_eq_true rfl) rfl dX7_change_22 rfl (fun r h2 hq => ?_)
      obtain ⟨rfl, hq⟩ := hq
      obtain rfl := hq.symm
      refine aw_if_eqB (t := 31) (pcn := 28) dX7_change_25 rfl (by decide) (fun q3 => ?_) (fun q3 => ?_)
      · refine aw_iload (pcn := 33) dX7_change_31 rfl rfl ?_
        refine aw_iconst (v := nI 1) (pcn := 34) dX7_change_33 rfl (by decide) ?_
        refine aw_ldc (pcn := 36) ct_X7_161 dX7_change_34 rfl ?_
        rw [show (60000 : Int32) = nI 60000 by decide]
        refine aw_Si (pcn := 39) (r_isIn _ _ _) mf_X7_isIn mv_X7_isIn ml_X7_64 rfl (by decide) (by decide) (by decide) (by exact Nat.le_of_ble_eq_true rfl) rfl dX7_change_36 rfl (fun r h2 hq => ?_)
        obtain ⟨rfl, hq⟩ := hq
        obtain rfl := hq.symm
        refine aw_if_neB (t := 45) (pcn := 42) dX7_change_39 rfl (by decide) (fun q4 => ?_) (fun q4 => ?_)
        · refine aw_ilo 2 (pcn := 46) rfl dX7_change_45 rfl rfl ?_
          refine aw_ilo 3 (pcn := 47) rfl dX7_change_46 rfl rfl ?_
          refine aw_icmp_eq (t := 61) (pcn := 50) dX7_change_47 rfl (by decide) (fun q5 => ?_) (fun q5 => ?_)
          · refine aw_bipush (v := -4) (pcn := 63) dX7_change_61 rfl (by decide) ?_
            exact aw_iret dX7_change_63 rfl ⟨_, rfl, ret2 (by first | (simp only [changeT, q1, q2, q3, q4, q5, Bool.false_eq_true, Bool.true_eq_false, reduceCtorEq, if_true, if_false, or_false, false_or, or_true, true_or, and_true, true_and, and_false, false_and, not_true_eq_false, not_false_eq_true, or_self, ← Int32.not_le, frT, isCT, isST, isPT, isZT, shiT]; done) | (rw [changeT_eq hS hc8 hc0 hF hP (by assumption) (by assumption)]; simp only [q1, q2, q3, q4, q5, Bool.false_eq_true, Bool.true_eq_false, reduceCtorEq, if_true, if_false, or_false, false_or, or_true, true_or, and_true, true_and, and_false, false_and, not_true_eq_false, not_false_eq_true, or_self, ← Int32.not_le, frT, isCT, isST, isPT, isZT, shiT]; done) | (rw [changeT_eq hS hc8 hc0 hF hP (by assumption) (by assumption)]; simp only [q1, q2, q3, q4, q5, Bool.false_eq_true, Bool.true_eq_false, reduceCtorEq, if_true, if_false, or_false, false_or, or_true, true_or, and_true, true_and, and_false, false_and, not_true_eq_false, not_false_eq_true, or_self, ← Int32.not_le, frT, isCT, isST, isPT, isZT, shiT]; rfl) | (rw [changeT_eq hS hc8 hc0 hF hP (by assumption) (by assumption)]; rfl)) (hW)⟩
          · refine aw_alo 0 (pcn := 51) rfl dX7_change_50 rfl rfl (rf_some _) ?_
            refine aw_ilo 1 (pcn := 52) rfl dX7_change_51 rfl rfl ?_
            refine aw_ilo 2 (pcn := 53) rfl dX7_change_52 rfl rfl ?_
            refine aw_Vi (pcn := 56) (r_free hW (S := S) (P := _) hS (by omega)) mf_X7_free mv_X7_free hW.mo rfl ml_X7_162 rfl (by decide) (by decide) (by decide) (by exact Nat.le_of_ble_eq_true rfl) rfl dX7_change_53 rfl (fun r h2 hq => ?_)
            obtain ⟨rfl, hq⟩ := hq
            obtain rfl := hq.symm
            refine aw_iload (pcn := 58) dX7_change_56 rfl rfl ?_
            refine aw_icmp_ge (t := 64) (pcn := 61) dX7_change_58 rfl (by decide) (fun q6 => ?_) (fun q6 => ?_)
            · refine aw_alo 0 (pcn := 65) rfl dX7_change_64 rfl rfl (rf_some _) ?_
              refine aw_getf (pcn := 68) fl_X7_52 dX7_change_65 rfl hW.mo rfl ?_
              refine aw_bipush (v := nI 35) (pcn := 70) dX7_change_68 rfl (by decide) ?_
              refine aw_ilo 1 (pcn := 71) rfl dX7_change_70 rfl rfl ?_
              refine aw_imulN (pcn := 72) dX7_change_71 rfl ?_
              refine aw_iconst (v := nI 4) (pcn := 73) dX7_change_72 rfl (by decide) ?_
              refine aw_iaddN (pcn := 74) dX7_change_73 rfl ?_
              refine aw_ilo 2 (pcn := 75) rfl dX7_change_74 rfl rfl ?_
              refine aw_iaddN (pcn := 76) dX7_change_75 rfl ?_
              refine aw_dup2 (pcn := 77) dX7_change_76 rfl rfl rfl ?_
              refine aw_ialdM (j := 19) (pcn := 78) hW dX7_change_77 rfl (show _ < 2240 by omega) ?_
              refine aw_iload (pcn := 80) dX7_change_78 rfl rfl ?_
              refine aw_isub (pcn := 81) dX7_change_80 rfl ?_
              refine aw_iastM (j := 19) (pcn := 82) hW dX7_change_81 rfl (show _ < 2240 by omega) (fun h hW => ?_)
              refine aw_alo 0 (pcn := 83) rfl dX7_change_82 rfl rfl (rf_some _) ?_
              refine aw_getf (pcn := 86) fl_X7_52 dX7_change_83 rfl hW.mo rfl ?_
              refine aw_bipush (v := nI 35) (pcn := 88) dX7_change_86 rfl (by decide) ?_
              refine aw_ilo 1 (pcn := 89) rfl dX7_change_88 rfl rfl ?_
              refine aw_imulN (pcn := 90) dX7_change_89 rfl ?_
              refine aw_iconst (v := nI 4) (pcn := 91) dX7_change_90 rfl (by decide) ?_
              refine aw_iaddN (pcn := 92) dX7_change_91 rfl ?_
              refine aw_ilo 3 (pcn := 93) rfl dX7_change_92 rfl rfl ?_
              refine aw_iaddN (pcn := 94) dX7_change_93 rfl ?_
              refine aw_dup2 (pcn := 95) dX7_change_94 rfl rfl rfl ?_
              refine aw_ialdM (j := 19) (pcn := 96) hW dX7_change_95 rfl (show _ < 2240 by omega) ?_
              refine aw_iload (pcn := 98) dX7_change_96 rfl rfl ?_
              refine aw_iadd (pcn := 99) dX7_change_98 rfl ?_
              refine aw_iastM (j := 19) (pcn := 100) hW dX7_change_99 rfl (show _ < 2240 by omega) (fun h hW => ?_)
              refine aw_alo 0 (pcn := 101) rfl dX7_change_100 rfl rfl (rf_some _) ?_
              refine aw_getf (pcn := 104) fl_X7_52 dX7_change_101 rfl hW.mo rfl ?_
              refine aw_bipush (v := nI 35) (pcn := 106) dX7_change_104 rfl (by decide) ?_
              refine aw_ilo 1 (pcn := 107) rfl dX7_change_106 rfl rfl ?_
              refine aw_imulN (pcn := 108) dX7_change_107 rfl ?_
              refine aw_iconst (v := nI 4) (pcn := 109) dX7_change_108 rfl (by decide) ?_
              refine aw_iaddN (pcn := 110) dX7_change_109 rfl ?_
              refine aw_ilo 2 (pcn := 111) rfl dX7_change_110 rfl rfl ?_
              refine aw_iaddN (pcn := 112) dX7_change_111 rfl ?_
              refine aw_ialdM (j := 19) (pcn := 113) hW dX7_change_112 rfl (show _ < 2240 by omega) ?_
              exact aw_iret dX7_change_113 rfl ⟨_, rfl, ret2 (by first | (simp only [changeT, q1, q2, q3, q4, q5, q6, Bool.false_eq_true, Bool.true_eq_false, reduceCtorEq, if_true, if_false, or_false, false_or, or_true, true_or, and_true, true_and, and_false, false_and, not_true_eq_false, not_false_eq_true, or_self, ← Int32.not_le, frT, isCT, isST, isPT, isZT, shiT]; done) | (rw [changeT_eq hS hc8 hc0 hF hP (by assumption) (by assumption)]; simp only [q1, q2, q3, q4, q5, q6, Bool.false_eq_true, Bool.true_eq_false, reduceCtorEq, if_true, if_false, or_false, false_or, or_true, true_or, and_true, true_and, and_false, false_and, not_true_eq_false, not_false_eq_true, or_self, ← Int32.not_le, frT, isCT, isST, isPT, isZT, shiT]; done) | (rw [changeT_eq hS hc8 hc0 hF hP (by assumption) (by assumption)]; simp only [q1, q2, q3, q4, q5, q6, Bool.false_eq_true, Bool.true_eq_false, reduceCtorEq, if_true, if_false, or_false, false_or, or_true, true_or, and_true, true_and, and_false, false_and, not_true_eq_false, not_false_eq_true, or_self, ← Int32.not_le, frT, isCT, isST, isPT, isZT, shiT]; rfl) | (rw [changeT_eq hS hc8 hc0 hF hP (by assumption) (by assumption)]; rfl)) (hW)⟩
            · refine aw_bipush (v := -4) (pcn := 63) dX7_change_61 rfl (by decide) ?_
              exact aw_iret dX7_change_63 rfl ⟨_, rfl, ret2 (by first | (simp only [changeT, q1, q2, q3, q4, q5, q6, Bool.false_eq_true, Bool.true_eq_false, reduceCtorEq, if_true, if_false, or_false, false_or, or_true, true_or, and_true, true_and, and_false, false_and, not_true_eq_false, not_false_eq_true, or_self, ← Int32.not_le, frT, isCT, isST, isPT, isZT, shiT]; done) | (rw [changeT_eq hS hc8 hc0 hF hP (by assumption) (by assumption)]; simp only [q1, q2, q3, q4, q5, q6, Bool.false_eq_true, Bool.true_eq_false, reduceCtorEq, if_true, if_false, or_false, false_or, or_true, true_or, and_true, true_and, and_false, false_and, not_true_eq_false, not_false_eq_true, or_self, ← Int32.not_le, frT, isCT, isST, isPT, isZT, shiT]; done) | (rw [changeT_eq hS hc8 hc0 hF hP (by assumption) (by assumption)]; simp only [q1, q2, q3, q4, q5, q6, Bool.false_eq_true, Bool.true_eq_false, reduceCtorEq, if_true, if_false, or_false, false_or, or_true, true_or, and_true, true_and, and_false, false_and, not_true_eq_false, not_false_eq_true, or_self, ← Int32.not_le, frT, isCT, isST, isPT, isZT, shiT]; rfl) | (rw [changeT_eq hS hc8 hc0 hF hP (by assumption) (by assumption)]; rfl)) (hW)⟩
        · refine aw_bipush (v := -3) (pcn := 44) dX7_change_42 rfl (by decide) ?_
          exact aw_iret dX7_change_44 rfl ⟨_, rfl, ret2 (by first | (simp only [changeT, q1, q2, q3, q4, Bool.false_eq_true, Bool.true_eq_false, reduceCtorEq, if_true, if_false, or_false, false_or, or_true, true_or, and_true, true_and, and_false, false_and, not_true_eq_false, not_false_eq_true, or_self, ← Int32.not_le, frT, isCT, isST, isPT, isZT, shiT]; done) | (rw [changeT_eq hS hc8 hc0 hF hP (by assumption) (by assumption)]; simp only [q1, q2, q3, q4, Bool.false_eq_true, Bool.true_eq_false, reduceCtorEq, if_true, if_false, or_false, false_or, or_true, true_or, and_true, true_and, and_false, false_and, not_true_eq_false, not_false_eq_true, or_self, ← Int32.not_le, frT, isCT, isST, isPT, isZT, shiT]; done) | (rw [changeT_eq hS hc8 hc0 hF hP (by assumption) (by assumption)]; simp only [q1, q2, q3, q4, Bool.false_eq_true, Bool.true_eq_false, reduceCtorEq, if_true, if_false, or_false, false_or, or_true, true_or, and_true, true_and, and_false, false_and, not_true_eq_false, not_false_eq_true, or_self, ← Int32.not_le, frT, isCT, isST, isPT, isZT, shiT]; rfl) | (rw [changeT_eq hS hc8 hc0 hF hP (by assumption) (by assumption)]; rfl)) (hW)⟩
      · refine aw_bipush (v := -2) (pcn := 30) dX7_change_28 rfl (by decide) ?_
        exact aw_iret dX7_change_30 rfl ⟨_, rfl, ret2 (by first | (simp only [changeT, q1, q2, q3, Bool.false_eq_true, Bool.true_eq_false, reduceCtorEq, if_true, if_false, or_false, false_or, or_true, true_or, and_true, true_and, and_false, false_and, not_true_eq_false, not_false_eq_true, or_self, ← Int32.not_le, frT, isCT, isST, isPT, isZT, shiT]; done) | (rw [changeT_eq hS hc8 hc0 hF hP (by assumption) (by assumption)]; simp only [q1, q2, q3, Bool.false_eq_true, Bool.true_eq_false, reduceCtorEq, if_true, if_false, or_false, false_or, or_true, true_or, and_true, true_and, and_false, false_and, not_true_eq_false, not_false_eq_true, or_self, ← Int32.not_le, frT, isCT, isST, isPT, isZT, shiT]; done) | (rw [changeT_eq hS hc8 hc0 hF hP (by assumption) (by assumption)]; simp only [q1, q2, q3, Bool.false_eq_true, Bool.true_eq_false, reduceCtorEq, if_true, if_false, or_false, false_or, or_true, true_or, and_true, true_and, and_false, false_and, not_true_eq_false, not_false_eq_true, or_self, ← Int32.not_le, frT, isCT, isST, isPT, isZT, shiT]; rfl) | (rw [changeT_eq hS hc8 hc0 hF hP (by assumption) (by assumption)]; rfl)) (hW)⟩
    · refine aw_iconst (v := -1) (pcn := 19) dX7_change_18 rfl (by decide) ?_
      exact aw_iret dX7_change_19 rfl ⟨_, rfl, ret2 (by first | (simp only [changeT, q1, q2, Bool.false_eq_true, Bool.true_eq_false, reduceCtorEq, if_true, if_false, or_false, false_or, or_true, true_or, and_true, true_and, and_false, false_and, not_true_eq_false, not_false_eq_true, or_self, ← Int32.not_le, frT, isCT, isST, isPT, isZT, shiT]; done) | (rw [changeT_eq hS hc8 hc0 hF hP (by assumption) (by assumption)]; simp only [q1, q2, Bool.false_eq_true, Bool.true_eq_false, reduceCtorEq, if_true, if_false, or_false, false_or, or_true, true_or, and_true, true_and, and_false, false_and, not_true_eq_false, not_false_eq_true, or_self, ← Int32.not_le, frT, isCT, isST, isPT, isZT, shiT]; done) | (rw [changeT_eq hS hc8 hc0 hF hP (by assumption) (by assumption)]; simp only [q1, q2, Bool.false_eq_true, Bool.true_eq_false, reduceCtorEq, if_true, if_false, or_false, false_or, or_true, true_or, and_true, true_and, and_false, false_and, not_true_eq_false, not_false_eq_true, or_self, ← Int32.not_le, frT, isCT, isST, isPT, isZT, shiT]; rfl) | (rw [changeT_eq hS hc8 hc0 hF hP (by assumption) (by assumption)]; rfl)) (hW)⟩

set_option maxHeartbeats 8000000 in
set_option maxRecDepth 20000 in
theorem r_a_lock {X : XG} {l : Launch} {Γ : NM} {ow : Nat → Nat × Nat} {h : Hp} {T Tr : TB} {nh : Nat} (hW : WD Γ ow h T Tr nh) {i C n Z hN : Nat} (hI : Iv i Tr C n Z hN) (s f t v z e : Int32) : AM X l yX7_lock cX7_lock 7 (some .int) 4 0 0 [.ref (Γ 14 0), .int s, .int f, .int t, .int v, .int z, .int e] h (qi fun r h' => r = (lockT Tr s f t v z e).1 ∧ WD Γ ow h' T (lockT Tr s f t v z e).2 nh) := by
  refine AM.of (by decide +kernel) (by simp [Value.category]) (Nat.le_of_ble_eq_true rfl) ?_
  show AW X l cX7_lock RX7 "lock" (some .int) 7 4 none _ 0 0 0 [some (.ref (Γ 14 0)), some (.int s), some (.int f), some (.int t), some (.int v), some (.int z), some (.int e)] [] h
  have h64 := hI.n64
  have h8 := hI.C8
  have h16 := hI.Z16
  have h4 := hI.h4
  refine aw_alo 0 (pcn := 1) rfl dX7_lock_0 rfl rfl (rf_some _) ?_
  refine aw_ilo 1 (pcn := 2) rfl dX7_lock_1 rfl rfl ?_
  refine aw_ilo 2 (pcn := 3) rfl dX7_lock_2 rfl rfl ?_
  refine aw_Vi (pcn := 6) (r_isOf hW hI.oST' _) mf_X7_isOf mv_X7_isOf hW.mo rfl ml_X7_155 rfl (by decide) (by decide) (by decide) (by exact Nat.le_of_ble_eq_true rfl) rfl dX7_lock_3 rfl (fun r h2 hq => ?_)
  obtain ⟨rfl, hq⟩ := hq
  obtain rfl := hq.symm
  refine aw_if_eqB (t := 33) (pcn := 9) dX7_lock_6 rfl (by decide) (fun q1 => ?_) (fun q1 => ?_)
  · refine aw_iconst (v := -1) (pcn := 34) dX7_lock_33 rfl (by decide) ?_
    exact aw_iret dX7_lock_34 rfl ⟨_, rfl, ret2 (by first | (simp only [lockT, q1, Bool.false_eq_true, Bool.true_eq_false, reduceCtorEq, if_true, if_false, or_false, false_or, or_true, true_or, and_true, true_and, and_false, false_and, not_true_eq_false, not_false_eq_true, or_self, ← Int32.not_le, frT, isCT, isST, isPT, isZT, shiT]; done) | (rw [lockT_eq hS hc8 hc0 hF hP (by omega) (by assumption) (by assumption) (by assumption)]; simp only [q1, Bool.false_eq_true, Bool.true_eq_false, reduceCtorEq, if_true, if_false, or_false, false_or, or_true, true_or, and_true, true_and, and_false, false_and, not_true_eq_false, not_false_eq_true, or_self, ← Int32.not_le, frT, isCT, isST, isPT, isZT, shiT]; done) | (rw [lockT_eq hS hc8 hc0 hF hP (by omega) (by assumption) (by assumption) (by assumption)]; simp only [q1, Bool.false_eq_true, Bool.true_eq_false, reduceCtorEq, if_true, if_false, or_false, false_or, or_true, true_or, and_true, true_and, and_false, false_and, not_true_eq_false, not_false_eq_true, or_self, ← Int32.not_le, frT, isCT, isST, isPT, isZT, shiT]; rfl) | (rw [lockT_eq hS hc8 hc0 hF hP (by omega) (by assumption) (by assumption) (by assumption)]; rfl)) (hW)⟩
  · obtain ⟨S, c, F, rfl, rfl, hSn, hcC, hF, hc0, hm1⟩ := hI.oOf q1
    have hS : S < 64 := by omega
    have hc8 : c < 8 := by omega
    refine aw_alo 0 (pcn := 10) rfl dX7_lock_9 rfl rfl (rf_some _) ?_
    refine aw_ilo 1 (pcn := 11) rfl dX7_lock_10 rfl rfl ?_
    refine aw_ilo 3 (pcn := 12) rfl dX7_lock_11 rfl rfl ?_
    refine aw_Vi (pcn := 15) (r_isOf hW hI.oST' _) mf_X7_isOf mv_X7_isOf hW.mo rfl ml_X7_155 rfl (by decide) (by decide) (by decide) (by exact Nat.le_of_ble_eq_true rfl) rfl dX7_lock_12 rfl (fun r h2 hq => ?_)
    obtain ⟨rfl, hq⟩ := hq
    obtain rfl := hq.symm
    refine aw_if_eqB (t := 33) (pcn := 18) dX7_lock_15 rfl (by decide) (fun q2 => ?_) (fun q2 => ?_)
    · refine aw_iconst (v := -1) (pcn := 34) dX7_lock_33 rfl (by decide) ?_
      exact aw_iret dX7_lock_34 rfl ⟨_, rfl, ret2 (by first | (simp only [lockT, q1, q2, Bool.false_eq_true, Bool.true_eq_false, reduceCtorEq, if_true, if_false, or_false, false_or, or_true, true_or, and_true, true_and, and_false, false_and, not_true_eq_false, not_false_eq_true, or_self, ← Int32.not_le, frT, isCT, isST, isPT, isZT, shiT]; done) | (rw [lockT_eq hS hc8 hc0 hF hP (by omega) (by assumption) (by assumption) (by assumption)]; simp only [q1, q2, Bool.false_eq_true, Bool.true_eq_false, reduceCtorEq, if_true, if_false, or_false, false_or, or_true, true_or, and_true, true_and, and_false, false_and, not_true_eq_false, not_false_eq_true, or_self, ← Int32.not_le, frT, isCT, isST, isPT, isZT, shiT]; done) | (rw [lockT_eq hS hc8 hc0 hF hP (by omega) (by assumption) (by assumption) (by assumption)]; simp only [q1, q2, Bool.false_eq_true, Bool.true_eq_false, reduceCtorEq, if_true, if_false, or_false, false_or, or_true, true_or, and_true, true_and, and_false, false_and, not_true_eq_false, not_false_eq_true, or_self, ← Int32.not_le, frT, isCT, isST, isPT, isZT, shiT]; rfl) | (rw [lockT_eq hS hc8 hc0 hF hP (by omega) (by assumption) (by assumption) (by assumption)]; rfl)) (hW)⟩
    · obtain ⟨P, hP, rfl⟩ := Iv.oOfP q2
      refine aw_iload (pcn := 20) dX7_lock_18 rfl rfl ?_
      refine aw_iconst (v := nI 0) (pcn := 21) dX7_lock_20 rfl (by decide) ?_
      refine aw_alo 0 (pcn := 22) rfl dX7_lock_21 rfl rfl (rf_some _) ?_
      refine aw_getf (pcn := 25) fl_X7_165 dX7_lock_22 rfl hW.mo rfl ?_
      refine aw_iconst (v := nI 1) (pcn := 26) dX7_lock_25 rfl (by decide) ?_
      refine aw_isub (pcn := 27) dX7_lock_26 rfl ?_
      refine aw_Si (pcn := 30) (r_isIn _ _ _) mf_X7_isIn mv_X7_isIn ml_X7_64 rfl (by decide) (by decide) (by decide) (by exact Nat.le_of_ble_eq_true rfl) rfl dX7_lock_27 rfl (fun r h2 hq => ?_)
      obtain ⟨rfl, hq⟩ := hq
      obtain rfl := hq.symm
      refine aw_if_neB (t := 35) (pcn := 33) dX7_lock_30 rfl (by decide) (fun q3 => ?_) (fun q3 => ?_)
      · obtain ⟨Z0, hZ0, rfl⟩ := oZ hI q3
        refine aw_alo 0 (pcn := 36) rfl dX7_lock_35 rfl rfl (rf_some _) ?_
        refine aw_ilo 1 (pcn := 37) rfl dX7_lock_36 rfl rfl ?_
        refine aw_Vi (pcn := 40) (r_isFixed hW (S := S) (c := c) hS hc8 hc0) mf_X7_isFixed mv_X7_isFixed hW.mo rfl ml_X7_158 rfl (by decide) (by decide) (by decide) (by exact Nat.le_of_ble_eq_true rfl) rfl dX7_lock_37 rfl (fun r h2 hq => ?_)
        obtain ⟨rfl, hq⟩ := hq
        obtain rfl := hq.symm
        refine aw_if_eqB (t := 46) (pcn := 43) dX7_lock_40 rfl (by decide) (fun q4 => ?_) (fun q4 => ?_)
        · refine aw_iload (pcn := 48) dX7_lock_46 rfl rfl ?_
          refine aw_iconst (v := nI 1) (pcn := 49) dX7_lock_48 rfl (by decide) ?_
          refine aw_ldc (pcn := 51) ct_X7_161 dX7_lock_49 rfl ?_
          rw [show (60000 : Int32) = nI 60000 by decide]
          refine aw_Si (pcn := 54) (r_isIn _ _ _) mf_X7_isIn mv_X7_isIn ml_X7_64 rfl (by decide) (by decide) (by decide) (by exact Nat.le_of_ble_eq_true rfl) rfl dX7_lock_51 rfl (fun r h2 hq => ?_)
          obtain ⟨rfl, hq⟩ := hq
          obtain rfl := hq.symm
          refine aw_if_eqB (t := 68) (pcn := 57) dX7_lock_54 rfl (by decide) (fun q5 => ?_) (fun q5 => ?_)
          · refine aw_bipush (v := -3) (pcn := 70) dX7_lock_68 rfl (by decide) ?_
            exact aw_iret dX7_lock_70 rfl ⟨_, rfl, ret2 (by first | (simp only [lockT, q1, q2, q3, q4, q5, Bool.false_eq_true, Bool.true_eq_false, reduceCtorEq, if_true, if_false, or_false, false_or, or_true, true_or, and_true, true_and, and_false, false_and, not_true_eq_false, not_false_eq_true, or_self, ← Int32.not_le, frT, isCT, isST, isPT, isZT, shiT]; done) | (rw [lockT_eq hS hc8 hc0 hF hP (by omega) (by assumption) (by assumption) (by assumption)]; simp only [q1, q2, q3, q4, q5, Bool.false_eq_true, Bool.true_eq_false, reduceCtorEq, if_true, if_false, or_false, false_or, or_true, true_or, and_true, true_and, and_false, false_and, not_true_eq_false, not_false_eq_true, or_self, ← Int32.not_le, frT, isCT, isST, isPT, isZT, shiT]; done) | (rw [lockT_eq hS hc8 hc0 hF hP (by omega) (by assumption) (by assumption) (by assumption)]; simp only [q1, q2, q3, q4, q5, Bool.false_eq_true, Bool.true_eq_false, reduceCtorEq, if_true, if_false, or_false, false_or, or_true, true_or, and_true, true_and, and_false, false_and, not_true_eq_false, not_false_eq_true, or_self, ← Int32.not_le, frT, isCT, isST, isPT, isZT, shiT]; rfl) | (rw [lockT_eq hS hc8 hc0 hF hP (by omega) (by assumption) (by assumption) (by assumption)]; rfl)) (hW)⟩
          · refine aw_iload (pcn := 59) dX7_lock_57 rfl rfl ?_
            refine aw_iconst (v := nI 1) (pcn := 60) dX7_lock_59 rfl (by decide) ?_
            refine aw_ldc (pcn := 62) ct_X7_168 dX7_lock_60 rfl ?_
            rw [show (1000000 : Int32) = nI 1000000 by decide]
            refine aw_Si (pcn := 65) (r_isIn _ _ _) mf_X7_isIn mv_X7_isIn ml_X7_64 rfl (by decide) (by decide) (by decide) (by exact Nat.le_of_ble_eq_true rfl) rfl dX7_lock_62 rfl (fun r h2 hq => ?_)
            obtain ⟨rfl, hq⟩ := hq
            obtain rfl := hq.symm
            refine aw_if_neB (t := 71) (pcn := 68) dX7_lock_65 rfl (by decide) (fun q6 => ?_) (fun q6 => ?_)
            · refine aw_ilo 2 (pcn := 72) rfl dX7_lock_71 rfl rfl ?_
              refine aw_ilo 3 (pcn := 73) rfl dX7_lock_72 rfl rfl ?_
              refine aw_icmp_eq (t := 96) (pcn := 76) dX7_lock_73 rfl (by decide) (fun q7 => ?_) (fun q7 => ?_)
              · refine aw_bipush (v := -4) (pcn := 98) dX7_lock_96 rfl (by decide) ?_
                exact aw_iret dX7_lock_98 rfl ⟨_, rfl, ret2 (by first | (simp only [lockT, q1, q2, q3, q4, q5, q6, q7, Bool.false_eq_true, Bool.true_eq_false, reduceCtorEq, if_true, if_false, or_false, false_or, or_true, true_or, and_true, true_and, and_false, false_and, not_true_eq_false, not_false_eq_true, or_self, ← Int32.not_le, frT, isCT, isST, isPT, isZT, shiT]; done) | (rw [lockT_eq hS hc8 hc0 hF hP (by omega) (by assumption) (by assumption) (by assumption)]; simp only [q1, q2, q3, q4, q5, q6, q7, Bool.false_eq_true, Bool.true_eq_false, reduceCtorEq, if_true, if_false, or_false, false_or, or_true, true_or, and_true, true_and, and_false, false_and, not_true_eq_false, not_false_eq_true, or_self, ← Int32.not_le, frT, isCT, isST, isPT, isZT, shiT]; done) | (rw [lockT_eq hS hc8 hc0 hF hP (by omega) (by assumption) (by assumption) (by assumption)]; simp only [q1, q2, q3, q4, q5, q6, q7, Bool.false_eq_true, Bool.true_eq_false, reduceCtorEq, if_true, if_false, or_false, false_or, or_true, true_or, and_true, true_and, and_false, false_and, not_true_eq_false, not_false_eq_true, or_self, ← Int32.not_le, frT, isCT, isST, isPT, isZT, shiT]; rfl) | (rw [lockT_eq hS hc8 hc0 hF hP (by omega) (by assumption) (by assumption) (by assumption)]; rfl)) (hW)⟩
              · refine aw_alo 0 (pcn := 77) rfl dX7_lock_76 rfl rfl (rf_some _) ?_
                refine aw_ilo 1 (pcn := 78) rfl dX7_lock_77 rfl rfl ?_
                refine aw_ilo 2 (pcn := 79) rfl dX7_lock_78 rfl rfl ?_
                refine aw_Vi (pcn := 82) (r_free hW (S := S) (P := _) hS (by omega)) mf_X7_free mv_X7_free hW.mo rfl ml_X7_162 rfl (by decide) (by decide) (by decide) (by exact Nat.le_of_ble_eq_true rfl) rfl dX7_lock_79 rfl (fun r h2 hq => ?_)
                obtain ⟨rfl, hq⟩ := hq
                obtain rfl := hq.symm
                refine aw_iload (pcn := 84) dX7_lock_82 rfl rfl ?_
                refine aw_icmp_lt (t := 96) (pcn := 87) dX7_lock_84 rfl (by decide) (fun q8 => ?_) (fun q8 => ?_)
                · replace q8 := Int32.not_le.mpr q8
                  refine aw_bipush (v := -4) (pcn := 98) dX7_lock_96 rfl (by decide) ?_
                  exact aw_iret dX7_lock_98 rfl ⟨_, rfl, ret2 (by first | (simp only [lockT, q1, q2, q3, q4, q5, q6, q7, q8, Bool.false_eq_true, Bool.true_eq_false, reduceCtorEq, if_true, if_false, or_false, false_or, or_true, true_or, and_true, true_and, and_false, false_and, not_true_eq_false, not_false_eq_true, or_self, ← Int32.not_le, frT, isCT, isST, isPT, isZT, shiT]; done) | (rw [lockT_eq hS hc8 hc0 hF hP (by omega) (by assumption) (by assumption) (by assumption)]; simp only [q1, q2, q3, q4, q5, q6, q7, q8, Bool.false_eq_true, Bool.true_eq_false, reduceCtorEq, if_true, if_false, or_false, false_or, or_true, true_or, and_true, true_and, and_false, false_and, not_true_eq_false, not_false_eq_true, or_self, ← Int32.not_le, frT, isCT, isST, isPT, isZT, shiT]; done) | (rw [lockT_eq hS hc8 hc0 hF hP (by omega) (by assumption) (by assumption) (by assumption)]; simp only [q1, q2, q3, q4, q5, q6, q7, q8, Bool.false_eq_true, Bool.true_eq_false, reduceCtorEq, if_true, if_false, or_false, false_or, or_true, true_or, and_true, true_and, and_false, false_and, not_true_eq_false, not_false_eq_true, or_self, ← Int32.not_le, frT, isCT, isST, isPT, isZT, shiT]; rfl) | (rw [lockT_eq hS hc8 hc0 hF hP (by omega) (by assumption) (by assumption) (by assumption)]; rfl)) (hW)⟩
                · replace q8 := Int32.not_lt.mp q8
                  refine aw_alo 0 (pcn := 88) rfl dX7_lock_87 rfl rfl (rf_some _) ?_
                  refine aw_ilo 1 (pcn := 89) rfl dX7_lock_88 rfl rfl ?_
                  refine aw_Vi (pcn := 92) (r_emptyPlace hW (S := S) hS) mf_X7_emptyPlace mv_X7_emptyPlace hW.mo rfl ml_X7_169 rfl (by decide) (by decide) (by decide) (by exact Nat.le_of_ble_eq_true rfl) rfl dX7_lock_89 rfl (fun r h2 hq => ?_)
                  obtain ⟨rfl, hq⟩ := hq
                  obtain rfl := hq.symm
                  refine aw_iconst (v := -1) (pcn := 93) dX7_lock_92 rfl (by decide) ?_
                  refine aw_icmp_ne (t := 99) (pcn := 96) dX7_lock_93 rfl (by decide) (fun q9 => ?_) (fun q9 => ?_)
                  · obtain ⟨K, hK, hep⟩ := ep_nI (by assumption)
                    refine aw_alo 0 (pcn := 100) rfl dX7_lock_99 rfl rfl (rf_some _) ?_
                    refine aw_ilo 1 (pcn := 101) rfl dX7_lock_100 rfl rfl ?_
                    refine aw_ilo 2 (pcn := 102) rfl dX7_lock_101 rfl rfl ?_
                    refine aw_ilo 3 (pcn := 103) rfl dX7_lock_102 rfl rfl ?_
                    refine aw_iload (pcn := 105) dX7_lock_103 rfl rfl ?_
                    refine aw_iload (pcn := 107) dX7_lock_105 rfl rfl ?_
                    refine aw_iload (pcn := 109) dX7_lock_107 rfl rfl ?_
                    refine aw_Vi (pcn := 112) (r_locks hW (S := S) (K := K) (P0 := F) (P1 := P) (Z := Z0) hS hF hK hep v e) mf_X7_locks mv_X7_locks hW.mo rfl ml_X7_172 rfl (by decide) (by decide) (by decide) (by exact Nat.le_of_ble_eq_true rfl) rfl dX7_lock_109 rfl (fun r h hq => ?_)
                    obtain ⟨rfl, hW⟩ := hq
                    exact aw_iret dX7_lock_112 rfl ⟨_, rfl, ret2 (T' := lksT Tr S K F P Z0 v e) (by rw [lockT_eq hS hc8 hc0 hF hP (by omega) (by assumption) (by assumption) (by assumption)]; simp only [q1, q2, q3, q4, q5, q6, q7, q8, q9, Bool.false_eq_true, Bool.true_eq_false, reduceCtorEq, if_true, if_false, or_false, false_or, or_true, true_or, and_true, true_and, and_false, false_and, not_true_eq_false, not_false_eq_true, or_self, ← Int32.not_le, frT, isCT, isST, isPT, isZT, shiT]; rw [hep, ix_nI (by omega)]) hW⟩
                  · refine aw_bipush (v := -4) (pcn := 98) dX7_lock_96 rfl (by decide) ?_
                    exact aw_iret dX7_lock_98 rfl ⟨_, rfl, ret2 (by first | (simp only [lockT, q1, q2, q3, q4, q5, q6, q7, q8, q9, Bool.false_eq_true, Bool.true_eq_false, reduceCtorEq, if_true, if_false, or_false, false_or, or_true, true_or, and_true, true_and, and_false, false_and, not_true_eq_false, not_false_eq_true, or_self, ← Int32.not_le, frT, isCT, isST, isPT, isZT, shiT]; done) | (rw [lockT_eq hS hc8 hc0 hF hP (by omega) (by assumption) (by assumption) (by assumption)]; simp only [q1, q2, q3, q4, q5, q6, q7, q8, q9, Bool.false_eq_true, Bool.true_eq_false, reduceCtorEq, if_true, if_false, or_false, false_or, or_true, true_or, and_true, true_and, and_false, false_and, not_true_eq_false, not_false_eq_true, or_self, ← Int32.not_le, frT, isCT, isST, isPT, isZT, shiT]; done) | (rw [lockT_eq hS hc8 hc0 hF hP (by omega) (by assumption) (by assumption) (by assumption)]; simp only [q1, q2, q3, q4, q5, q6, q7, q8, q9, Bool.false_eq_true, Bool.true_eq_false, reduceCtorEq, if_true, if_false, or_false, false_or, or_true, true_or, and_true, true_and, and_false, false_and, not_true_eq_false, not_false_eq_true, or_self, ← Int32.not_le, frT, isCT, isST, isPT, isZT, shiT]; rfl) | (rw [lockT_eq hS hc8 hc0 hF hP (by omega) (by assumption) (by assumption) (by assumption)]; rfl)) (hW)⟩
            · refine aw_bipush (v := -3) (pcn := 70) dX7_lock_68 rfl (by decide) ?_
              exact aw_iret dX7_lock_70 rfl ⟨_, rfl, ret2 (by first | (simp only [lockT, q1, q2, q3, q4, q5, q6, Bool.false_eq_true, Bool.true_eq_false, reduceCtorEq, if_true, if_false, or_false, false_or, or_true, true_or, and_true, true_and, and_false, false_and, not_true_eq_false, not_false_eq_true, or_self, ← Int32.not_le, frT, isCT, isST, isPT, isZT, shiT]; done) | (rw [lockT_eq hS hc8 hc0 hF hP (by omega) (by assumption) (by assumption) (by assumption)]; simp only [q1, q2, q3, q4, q5, q6, Bool.false_eq_true, Bool.true_eq_false, reduceCtorEq, if_true, if_false, or_false, false_or, or_true, true_or, and_true, true_and, and_false, false_and, not_true_eq_false, not_false_eq_true, or_self, ← Int32.not_le, frT, isCT, isST, isPT, isZT, shiT]; done) | (rw [lockT_eq hS hc8 hc0 hF hP (by omega) (by assumption) (by assumption) (by assumption)]; simp only [q1, q2, q3, q4, q5, q6, Bool.false_eq_true, Bool.true_eq_false, reduceCtorEq, if_true, if_false, or_false, false_or, or_true, true_or, and_true, true_and, and_false, false_and, not_true_eq_false, not_false_eq_true, or_self, ← Int32.not_le, frT, isCT, isST, isPT, isZT, shiT]; rfl) | (rw [lockT_eq hS hc8 hc0 hF hP (by omega) (by assumption) (by assumption) (by assumption)]; rfl)) (hW)⟩
        · refine aw_bipush (v := -2) (pcn := 45) dX7_lock_43 rfl (by decide) ?_
          exact aw_iret dX7_lock_45 rfl ⟨_, rfl, ret2 (by first | (simp only [lockT, q1, q2, q3, q4, Bool.false_eq_true, Bool.true_eq_false, reduceCtorEq, if_true, if_false, or_false, false_or, or_true, true_or, and_true, true_and, and_false, false_and, not_true_eq_false, not_false_eq_true, or_self, ← Int32.not_le, frT, isCT, isST, isPT, isZT, shiT]; done) | (rw [lockT_eq hS hc8 hc0 hF hP (by omega) (by assumption) (by assumption) (by assumption)]; simp only [q1, q2, q3, q4, Bool.false_eq_true, Bool.true_eq_false, reduceCtorEq, if_true, if_false, or_false, false_or, or_true, true_or, and_true, true_and, and_false, false_and, not_true_eq_false, not_false_eq_true, or_self, ← Int32.not_le, frT, isCT, isST, isPT, isZT, shiT]; done) | (rw [lockT_eq hS hc8 hc0 hF hP (by omega) (by assumption) (by assumption) (by assumption)]; simp only [q1, q2, q3, q4, Bool.false_eq_true, Bool.true_eq_false, reduceCtorEq, if_true, if_false, or_false, false_or, or_true, true_or, and_true, true_and, and_false, false_and, not_true_eq_false, not_false_eq_true, or_self, ← Int32.not_le, frT, isCT, isST, isPT, isZT, shiT]; rfl) | (rw [lockT_eq hS hc8 hc0 hF hP (by omega) (by assumption) (by assumption) (by assumption)]; rfl)) (hW)⟩
      · refine aw_iconst (v := -1) (pcn := 34) dX7_lock_33 rfl (by decide) ?_
        exact aw_iret dX7_lock_34 rfl ⟨_, rfl, ret2 (by first | (simp only [lockT, q1, q2, q3, Bool.false_eq_true, Bool.true_eq_false, reduceCtorEq, if_true, if_false, or_false, false_or, or_true, true_or, and_true, true_and, and_false, false_and, not_true_eq_false, not_false_eq_true, or_self, ← Int32.not_le, frT, isCT, isST, isPT, isZT, shiT]; done) | (rw [lockT_eq hS hc8 hc0 hF hP (by omega) (by assumption) (by assumption) (by assumption)]; simp only [q1, q2, q3, Bool.false_eq_true, Bool.true_eq_false, reduceCtorEq, if_true, if_false, or_false, false_or, or_true, true_or, and_true, true_and, and_false, false_and, not_true_eq_false, not_false_eq_true, or_self, ← Int32.not_le, frT, isCT, isST, isPT, isZT, shiT]; done) | (rw [lockT_eq hS hc8 hc0 hF hP (by omega) (by assumption) (by assumption) (by assumption)]; simp only [q1, q2, q3, Bool.false_eq_true, Bool.true_eq_false, reduceCtorEq, if_true, if_false, or_false, false_or, or_true, true_or, and_true, true_and, and_false, false_and, not_true_eq_false, not_false_eq_true, or_self, ← Int32.not_le, frT, isCT, isST, isPT, isZT, shiT]; rfl) | (rw [lockT_eq hS hc8 hc0 hF hP (by omega) (by assumption) (by assumption) (by assumption)]; rfl)) (hW)⟩

set_option maxHeartbeats 8000000 in
set_option maxRecDepth 20000 in
theorem r_a_unlock {X : XG} {l : Launch} {Γ : NM} {ow : Nat → Nat × Nat} {h : Hp} {T Tr : TB} {nh : Nat} (hW : WD Γ ow h T Tr nh) {i C n Z hN : Nat} (hI : Iv i Tr C n Z hN) (s p op : Int32) : AM X l yX7_unlock cX7_unlock 8 (some .int) 3 0 0 [.ref (Γ 14 0), .int s, .int p, .int op] h (qi fun r h' => r = (unlockT Tr s p op).1 ∧ WD Γ ow h' T (unlockT Tr s p op).2 nh) := by
  refine AM.of (by decide +kernel) (by simp [Value.category]) (Nat.le_of_ble_eq_true rfl) ?_
  show AW X l cX7_unlock RX7 "unlock" (some .int) 8 3 none _ 0 0 0 [some (.ref (Γ 14 0)), some (.int s), some (.int p), some (.int op), none, none, none, none] [] h
  have h64 := hI.n64
  have h8 := hI.C8
  have h16 := hI.Z16
  have h4 := hI.h4
  refine aw_alo 0 (pcn := 1) rfl dX7_unlock_0 rfl rfl (rf_some _) ?_
  refine aw_ilo 1 (pcn := 2) rfl dX7_unlock_1 rfl rfl ?_
  refine aw_ilo 2 (pcn := 3) rfl dX7_unlock_2 rfl rfl ?_
  refine aw_Vi (pcn := 6) (r_isLock hW hI.n18 hI.n64 _) mf_X7_isLock mv_X7_isLock hW.mo rfl ml_X7_176 rfl (by decide) (by decide) (by decide) (by exact Nat.le_of_ble_eq_true rfl) rfl dX7_unlock_3 rfl (fun r h2 hq => ?_)
  obtain ⟨rfl, hq⟩ := hq
  obtain rfl := hq.symm
  refine aw_if_neB (t := 11) (pcn := 9) dX7_unlock_6 rfl (by decide) (fun q1 => ?_) (fun q1 => ?_)
  · have hqq := q1
    rw [Bool.and_eq_true] at hqq
    obtain ⟨S, c, rfl, hSn, hcC, hc0⟩ := hI.oST hqq.1
    have hS : S < 64 := by omega
    have hc8 : c < 8 := by omega
    have hl2 := hqq.2
    rw [ix_nI (by omega)] at hl2
    obtain ⟨K, hK, rfl, hl3⟩ := isLT_nI hl2
    refine aw_alo 0 (pcn := 12) rfl dX7_unlock_11 rfl rfl (rf_some _) ?_
    refine aw_ilo 1 (pcn := 13) rfl dX7_unlock_12 rfl rfl ?_
    refine aw_Vi (pcn := 16) (r_isFixed hW (S := S) (c := c) hS hc8 hc0) mf_X7_isFixed mv_X7_isFixed hW.mo rfl ml_X7_158 rfl (by decide) (by decide) (by decide) (by exact Nat.le_of_ble_eq_true rfl) rfl dX7_unlock_13 rfl (fun r h2 hq => ?_)
    obtain ⟨rfl, hq⟩ := hq
    obtain rfl := hq.symm
    refine aw_if_eqB (t := 22) (pcn := 19) dX7_unlock_16 rfl (by decide) (fun q2 => ?_) (fun q2 => ?_)
    · refine aw_ilo 1 (pcn := 23) rfl dX7_unlock_22 rfl rfl ?_
      refine aw_ilo 2 (pcn := 24) rfl dX7_unlock_23 rfl rfl ?_
      refine aw_Si (pcn := 27) (r_lockAt _ _) mf_X7_lockAt mv_X7_lockAt ml_X7_93 rfl (by decide) (by decide) (by decide) (by exact Nat.le_of_ble_eq_true rfl) rfl dX7_unlock_24 rfl (fun r h2 hq => ?_)
      obtain ⟨rfl, hq⟩ := hq
      obtain rfl := hq.symm
      refine aw_istore (pcn := 29) dX7_unlock_27 rfl (by decide) ?_
      dsimp only [List.set_cons_zero, List.set_cons_succ]
      refine aw_alo 0 (pcn := 30) rfl dX7_unlock_29 rfl rfl (rf_some _) ?_
      refine aw_getf (pcn := 33) fl_X7_52 dX7_unlock_30 rfl hW.mo rfl ?_
      refine aw_iload (pcn := 35) dX7_unlock_33 rfl rfl ?_
      refine aw_iconst (v := nI 0) (pcn := 36) dX7_unlock_35 rfl (by decide) ?_
      refine aw_iaddN (pcn := 37) dX7_unlock_36 rfl ?_
      refine aw_ialdM (j := 19) (pcn := 38) hW dX7_unlock_37 rfl (show _ < 2240 by omega) ?_
      refine aw_istore (pcn := 40) dX7_unlock_38 rfl (by decide) ?_
      dsimp only [List.set_cons_zero, List.set_cons_succ]
      refine aw_ilo 3 (pcn := 41) rfl dX7_unlock_40 rfl rfl ?_
      refine aw_if_eq (t := 56) (pcn := 44) dX7_unlock_41 rfl (by decide) (fun q3 => ?_) (fun q3 => ?_)
      · refine aw_alo 0 (pcn := 57) rfl dX7_unlock_56 rfl rfl (rf_some _) ?_
        refine aw_getf (pcn := 60) fl_X7_52 dX7_unlock_57 rfl hW.mo rfl ?_
        refine aw_iload (pcn := 62) dX7_unlock_60 rfl rfl ?_
        refine aw_iconst (v := nI 1) (pcn := 63) dX7_unlock_62 rfl (by decide) ?_
        refine aw_iaddN (pcn := 64) dX7_unlock_63 rfl ?_
        refine aw_ialdM (j := 19) (pcn := 65) hW dX7_unlock_64 rfl (show _ < 2240 by omega) ?_
        obtain ⟨P, hP, hP1⟩ := (hI.st hSn).2.2.1 K hK |>.2.1
        rw [show Tr 19 (35 * S + 16 + 5 * K + 1) = nI P from hP1]
        refine aw_istore (pcn := 67) dX7_unlock_65 rfl (by decide) ?_
        dsimp only [List.set_cons_zero, List.set_cons_succ]
        refine aw_alo 0 (pcn := 68) rfl dX7_unlock_67 rfl rfl (rf_some _) ?_
        refine aw_getf (pcn := 71) fl_X7_52 dX7_unlock_68 rfl hW.mo rfl ?_
        refine aw_bipush (v := nI 35) (pcn := 73) dX7_unlock_71 rfl (by decide) ?_
        refine aw_ilo 1 (pcn := 74) rfl dX7_unlock_73 rfl rfl ?_
        refine aw_imulN (pcn := 75) dX7_unlock_74 rfl ?_
        refine aw_iconst (v := nI 4) (pcn := 76) dX7_unlock_75 rfl (by decide) ?_
        refine aw_iaddN (pcn := 77) dX7_unlock_76 rfl ?_
        refine aw_iload (pcn := 79) dX7_unlock_77 rfl rfl ?_
        refine aw_iaddN (pcn := 80) dX7_unlock_79 rfl ?_
        refine aw_dup2 (pcn := 81) dX7_unlock_80 rfl rfl rfl ?_
        refine aw_ialdM (j := 19) (pcn := 82) hW dX7_unlock_81 rfl (show _ < 2240 by omega) ?_
        refine aw_iload (pcn := 84) dX7_unlock_82 rfl rfl ?_
        refine aw_iadd (pcn := 85) dX7_unlock_84 rfl ?_
        refine aw_iastM (j := 19) (pcn := 86) hW dX7_unlock_85 rfl (show _ < 2240 by omega) (fun h hW => ?_)
        refine aw_iconst (v := nI 0) (pcn := 87) dX7_unlock_86 rfl (by decide) ?_
        refine aw_istore (pcn := 89) dX7_unlock_87 rfl (by decide) ?_
        dsimp only [List.set_cons_zero, List.set_cons_succ]
        refine aw_iload (pcn := 91) dX7_unlock_89 rfl rfl ?_
        refine aw_iconst (v := nI 5) (pcn := 92) dX7_unlock_91 rfl (by decide) ?_
        refine aw_icmp_ge (t := 112) (pcn := 95) dX7_unlock_92 rfl (by decide) (fun q4 => absurd q4 (by decide)) (fun q4 => ?_)
        refine aw_alo 0 (pcn := 96) rfl dX7_unlock_95 rfl rfl (rf_some _) ?_
        refine aw_getf (pcn := 99) fl_X7_52 dX7_unlock_96 rfl hW.mo rfl ?_
        refine aw_iload (pcn := 101) dX7_unlock_99 rfl rfl ?_
        refine aw_iload (pcn := 103) dX7_unlock_101 rfl rfl ?_
        refine aw_iaddN (pcn := 104) dX7_unlock_103 rfl ?_
        refine aw_iconst (v := nI 0) (pcn := 105) dX7_unlock_104 rfl (by decide) ?_
        refine aw_iastM (j := 19) (pcn := 106) hW dX7_unlock_105 rfl (show _ < 2240 by omega) (fun h hW => ?_)
        refine aw_iinc (v := nI 1) (pcn := 109) dX7_unlock_106 rfl (by decide) rfl (by decide) ?_
        dsimp only [List.set_cons_zero, List.set_cons_succ]
        refine aw_goto (t := 89) dX7_unlock_109 (by decide) ?_
        refine aw_iload (pcn := 91) dX7_unlock_89 rfl rfl ?_
        refine aw_iconst (v := nI 5) (pcn := 92) dX7_unlock_91 rfl (by decide) ?_
        refine aw_icmp_ge (t := 112) (pcn := 95) dX7_unlock_92 rfl (by decide) (fun q5 => absurd q5 (by decide)) (fun q5 => ?_)
        refine aw_alo 0 (pcn := 96) rfl dX7_unlock_95 rfl rfl (rf_some _) ?_
        refine aw_getf (pcn := 99) fl_X7_52 dX7_unlock_96 rfl hW.mo rfl ?_
        refine aw_iload (pcn := 101) dX7_unlock_99 rfl rfl ?_
        refine aw_iload (pcn := 103) dX7_unlock_101 rfl rfl ?_
        refine aw_iaddN (pcn := 104) dX7_unlock_103 rfl ?_
        refine aw_iconst (v := nI 0) (pcn := 105) dX7_unlock_104 rfl (by decide) ?_
        refine aw_iastM (j := 19) (pcn := 106) hW dX7_unlock_105 rfl (show _ < 2240 by omega) (fun h hW => ?_)
        refine aw_iinc (v := nI 2) (pcn := 109) dX7_unlock_106 rfl (by decide) rfl (by decide) ?_
        dsimp only [List.set_cons_zero, List.set_cons_succ]
        refine aw_goto (t := 89) dX7_unlock_109 (by decide) ?_
        refine aw_iload (pcn := 91) dX7_unlock_89 rfl rfl ?_
        refine aw_iconst (v := nI 5) (pcn := 92) dX7_unlock_91 rfl (by decide) ?_
        refine aw_icmp_ge (t := 112) (pcn := 95) dX7_unlock_92 rfl (by decide) (fun q6 => absurd q6 (by decide)) (fun q6 => ?_)
        refine aw_alo 0 (pcn := 96) rfl dX7_unlock_95 rfl rfl (rf_some _) ?_
        refine aw_getf (pcn := 99) fl_X7_52 dX7_unlock_96 rfl hW.mo rfl ?_
        refine aw_iload (pcn := 101) dX7_unlock_99 rfl rfl ?_
        refine aw_iload (pcn := 103) dX7_unlock_101 rfl rfl ?_
        refine aw_iaddN (pcn := 104) dX7_unlock_103 rfl ?_
        refine aw_iconst (v := nI 0) (pcn := 105) dX7_unlock_104 rfl (by decide) ?_
        refine aw_iastM (j := 19) (pcn := 106) hW dX7_unlock_105 rfl (show _ < 2240 by omega) (fun h hW => ?_)
        refine aw_iinc (v := nI 3) (pcn := 109) dX7_unlock_106 rfl (by decide) rfl (by decide) ?_
        dsimp only [List.set_cons_zero, List.set_cons_succ]
        refine aw_goto (t := 89) dX7_unlock_109 (by decide) ?_
        refine aw_iload (pcn := 91) dX7_unlock_89 rfl rfl ?_
        refine aw_iconst (v := nI 5) (pcn := 92) dX7_unlock_91 rfl (by decide) ?_
        refine aw_icmp_ge (t := 112) (pcn := 95) dX7_unlock_92 rfl (by decide) (fun q7 => absurd q7 (by decide)) (fun q7 => ?_)
        refine aw_alo 0 (pcn := 96) rfl dX7_unlock_95 rfl rfl (rf_some _) ?_
        refine aw_getf (pcn := 99) fl_X7_52 dX7_unlock_96 rfl hW.mo rfl ?_
        refine aw_iload (pcn := 101) dX7_unlock_99 rfl rfl ?_
        refine aw_iload (pcn := 103) dX7_unlock_101 rfl rfl ?_
        refine aw_iaddN (pcn := 104) dX7_unlock_103 rfl ?_
        refine aw_iconst (v := nI 0) (pcn := 105) dX7_unlock_104 rfl (by decide) ?_
        refine aw_iastM (j := 19) (pcn := 106) hW dX7_unlock_105 rfl (show _ < 2240 by omega) (fun h hW => ?_)
        refine aw_iinc (v := nI 4) (pcn := 109) dX7_unlock_106 rfl (by decide) rfl (by decide) ?_
        dsimp only [List.set_cons_zero, List.set_cons_succ]
        refine aw_goto (t := 89) dX7_unlock_109 (by decide) ?_
        refine aw_iload (pcn := 91) dX7_unlock_89 rfl rfl ?_
        refine aw_iconst (v := nI 5) (pcn := 92) dX7_unlock_91 rfl (by decide) ?_
        refine aw_icmp_ge (t := 112) (pcn := 95) dX7_unlock_92 rfl (by decide) (fun q8 => absurd q8 (by decide)) (fun q8 => ?_)
        refine aw_alo 0 (pcn := 96) rfl dX7_unlock_95 rfl rfl (rf_some _) ?_
        refine aw_getf (pcn := 99) fl_X7_52 dX7_unlock_96 rfl hW.mo rfl ?_
        refine aw_iload (pcn := 101) dX7_unlock_99 rfl rfl ?_
        refine aw_iload (pcn := 103) dX7_unlock_101 rfl rfl ?_
        refine aw_iaddN (pcn := 104) dX7_unlock_103 rfl ?_
        refine aw_iconst (v := nI 0) (pcn := 105) dX7_unlock_104 rfl (by decide) ?_
        refine aw_iastM (j := 19) (pcn := 106) hW dX7_unlock_105 rfl (show _ < 2240 by omega) (fun h hW => ?_)
        refine aw_iinc (v := nI 5) (pcn := 109) dX7_unlock_106 rfl (by decide) rfl (by decide) ?_
        dsimp only [List.set_cons_zero, List.set_cons_succ]
        refine aw_goto (t := 89) dX7_unlock_109 (by decide) ?_
        refine aw_iload (pcn := 91) dX7_unlock_89 rfl rfl ?_
        refine aw_iconst (v := nI 5) (pcn := 92) dX7_unlock_91 rfl (by decide) ?_
        refine aw_icmp_ge (t := 112) (pcn := 95) dX7_unlock_92 rfl (by decide) (fun q9 => ?_) (fun q9 => absurd (by decide) q9)
        refine aw_iload (pcn := 114) dX7_unlock_112 rfl rfl ?_
        exact aw_iret dX7_unlock_114 rfl ⟨_, rfl, ret2 (by rw [unlockT_eq hS hc8 hc0 hK hqq.1 hl2, if_neg (by rw [q2]; decide)]; first | (rw [if_pos q3, show lkT Tr S K 1 = nI P from hP1, ix_nI (by omega)]; rfl) | (rw [if_neg q3, show lkT Tr S K 2 = nI P from hP1, ix_nI (by omega)]; rfl)) hW⟩
      · refine aw_alo 0 (pcn := 45) rfl dX7_unlock_44 rfl rfl (rf_some _) ?_
        refine aw_getf (pcn := 48) fl_X7_52 dX7_unlock_45 rfl hW.mo rfl ?_
        refine aw_iload (pcn := 50) dX7_unlock_48 rfl rfl ?_
        refine aw_iconst (v := nI 2) (pcn := 51) dX7_unlock_50 rfl (by decide) ?_
        refine aw_iaddN (pcn := 52) dX7_unlock_51 rfl ?_
        refine aw_ialdM (j := 19) (pcn := 53) hW dX7_unlock_52 rfl (show _ < 2240 by omega) ?_
        obtain ⟨P, hP, hP1⟩ := (hI.st hSn).2.2.1 K hK |>.2.2.1
        rw [show Tr 19 (35 * S + 16 + 5 * K + 2) = nI P from hP1]
        refine aw_goto (t := 65) dX7_unlock_53 (by decide) ?_
        refine aw_istore (pcn := 67) dX7_unlock_65 rfl (by decide) ?_
        dsimp only [List.set_cons_zero, List.set_cons_succ]
        refine aw_alo 0 (pcn := 68) rfl dX7_unlock_67 rfl rfl (rf_some _) ?_
        refine aw_getf (pcn := 71) fl_X7_52 dX7_unlock_68 rfl hW.mo rfl ?_
        refine aw_bipush (v := nI 35) (pcn := 73) dX7_unlock_71 rfl (by decide) ?_
        refine aw_ilo 1 (pcn := 74) rfl dX7_unlock_73 rfl rfl ?_
        refine aw_imulN (pcn := 75) dX7_unlock_74 rfl ?_
        refine aw_iconst (v := nI 4) (pcn := 76) dX7_unlock_75 rfl (by decide) ?_
        refine aw_iaddN (pcn := 77) dX7_unlock_76 rfl ?_
        refine aw_iload (pcn := 79) dX7_unlock_77 rfl rfl ?_
        refine aw_iaddN (pcn := 80) dX7_unlock_79 rfl ?_
        refine aw_dup2 (pcn := 81) dX7_unlock_80 rfl rfl rfl ?_
        refine aw_ialdM (j := 19) (pcn := 82) hW dX7_unlock_81 rfl (show _ < 2240 by omega) ?_
        refine aw_iload (pcn := 84) dX7_unlock_82 rfl rfl ?_
        refine aw_iadd (pcn := 85) dX7_unlock_84 rfl ?_
        refine aw_iastM (j := 19) (pcn := 86) hW dX7_unlock_85 rfl (show _ < 2240 by omega) (fun h hW => ?_)
        refine aw_iconst (v := nI 0) (pcn := 87) dX7_unlock_86 rfl (by decide) ?_
        refine aw_istore (pcn := 89) dX7_unlock_87 rfl (by decide) ?_
        dsimp only [List.set_cons_zero, List.set_cons_succ]
        refine aw_iload (pcn := 91) dX7_unlock_89 rfl rfl ?_
        refine aw_iconst (v := nI 5) (pcn := 92) dX7_unlock_91 rfl (by decide) ?_
        refine aw_icmp_ge (t := 112) (pcn := 95) dX7_unlock_92 rfl (by decide) (fun q10 => absurd q10 (by decide)) (fun q10 => ?_)
        refine aw_alo 0 (pcn := 96) rfl dX7_unlock_95 rfl rfl (rf_some _) ?_
        refine aw_getf (pcn := 99) fl_X7_52 dX7_unlock_96 rfl hW.mo rfl ?_
        refine aw_iload (pcn := 101) dX7_unlock_99 rfl rfl ?_
        refine aw_iload (pcn := 103) dX7_unlock_101 rfl rfl ?_
        refine aw_iaddN (pcn := 104) dX7_unlock_103 rfl ?_
        refine aw_iconst (v := nI 0) (pcn := 105) dX7_unlock_104 rfl (by decide) ?_
        refine aw_iastM (j := 19) (pcn := 106) hW dX7_unlock_105 rfl (show _ < 2240 by omega) (fun h hW => ?_)
        refine aw_iinc (v := nI 1) (pcn := 109) dX7_unlock_106 rfl (by decide) rfl (by decide) ?_
        dsimp only [List.set_cons_zero, List.set_cons_succ]
        refine aw_goto (t := 89) dX7_unlock_109 (by decide) ?_
        refine aw_iload (pcn := 91) dX7_unlock_89 rfl rfl ?_
        refine aw_iconst (v := nI 5) (pcn := 92) dX7_unlock_91 rfl (by decide) ?_
        refine aw_icmp_ge (t := 112) (pcn := 95) dX7_unlock_92 rfl (by decide) (fun q11 => absurd q11 (by decide)) (fun q11 => ?_)
        refine aw_alo 0 (pcn := 96) rfl dX7_unlock_95 rfl rfl (rf_some _) ?_
        refine aw_getf (pcn := 99) fl_X7_52 dX7_unlock_96 rfl hW.mo rfl ?_
        refine aw_iload (pcn := 101) dX7_unlock_99 rfl rfl ?_
        refine aw_iload (pcn := 103) dX7_unlock_101 rfl rfl ?_
        refine aw_iaddN (pcn := 104) dX7_unlock_103 rfl ?_
        refine aw_iconst (v := nI 0) (pcn := 105) dX7_unlock_104 rfl (by decide) ?_
        refine aw_iastM (j := 19) (pcn := 106) hW dX7_unlock_105 rfl (show _ < 2240 by omega) (fun h hW => ?_)
        refine aw_iinc (v := nI 2) (pcn := 109) dX7_unlock_106 rfl (by decide) rfl (by decide) ?_
        dsimp only [List.set_cons_zero, List.set_cons_succ]
        refine aw_goto (t := 89) dX7_unlock_109 (by decide) ?_
        refine aw_iload (pcn := 91) dX7_unlock_89 rfl rfl ?_
        refine aw_iconst (v := nI 5) (pcn := 92) dX7_unlock_91 rfl (by decide) ?_
        refine aw_icmp_ge (t := 112) (pcn := 95) dX7_unlock_92 rfl (by decide) (fun q12 => absurd q12 (by decide)) (fun q12 => ?_)
        refine aw_alo 0 (pcn := 96) rfl dX7_unlock_95 rfl rfl (rf_some _) ?_
        refine aw_getf (pcn := 99) fl_X7_52 dX7_unlock_96 rfl hW.mo rfl ?_
        refine aw_iload (pcn := 101) dX7_unlock_99 rfl rfl ?_
        refine aw_iload (pcn := 103) dX7_unlock_101 rfl rfl ?_
        refine aw_iaddN (pcn := 104) dX7_unlock_103 rfl ?_
        refine aw_iconst (v := nI 0) (pcn := 105) dX7_unlock_104 rfl (by decide) ?_
        refine aw_iastM (j := 19) (pcn := 106) hW dX7_unlock_105 rfl (show _ < 2240 by omega) (fun h hW => ?_)
        refine aw_iinc (v := nI 3) (pcn := 109) dX7_unlock_106 rfl (by decide) rfl (by decide) ?_
        dsimp only [List.set_cons_zero, List.set_cons_succ]
        refine aw_goto (t := 89) dX7_unlock_109 (by decide) ?_
        refine aw_iload (pcn := 91) dX7_unlock_89 rfl rfl ?_
        refine aw_iconst (v := nI 5) (pcn := 92) dX7_unlock_91 rfl (by decide) ?_
        refine aw_icmp_ge (t := 112) (pcn := 95) dX7_unlock_92 rfl (by decide) (fun q13 => absurd q13 (by decide)) (fun q13 => ?_)
        refine aw_alo 0 (pcn := 96) rfl dX7_unlock_95 rfl rfl (rf_some _) ?_
        refine aw_getf (pcn := 99) fl_X7_52 dX7_unlock_96 rfl hW.mo rfl ?_
        refine aw_iload (pcn := 101) dX7_unlock_99 rfl rfl ?_
        refine aw_iload (pcn := 103) dX7_unlock_101 rfl rfl ?_
        refine aw_iaddN (pcn := 104) dX7_unlock_103 rfl ?_
        refine aw_iconst (v := nI 0) (pcn := 105) dX7_unlock_104 rfl (by decide) ?_
        refine aw_iastM (j := 19) (pcn := 106) hW dX7_unlock_105 rfl (show _ < 2240 by omega) (fun h hW => ?_)
        refine aw_iinc (v := nI 4) (pcn := 109) dX7_unlock_106 rfl (by decide) rfl (by decide) ?_
        dsimp only [List.set_cons_zero, List.set_cons_succ]
        refine aw_goto (t := 89) dX7_unlock_109 (by decide) ?_
        refine aw_iload (pcn := 91) dX7_unlock_89 rfl rfl ?_
        refine aw_iconst (v := nI 5) (pcn := 92) dX7_unlock_91 rfl (by decide) ?_
        refine aw_icmp_ge (t := 112) (pcn := 95) dX7_unlock_92 rfl (by decide) (fun q14 => absurd q14 (by decide)) (fun q14 => ?_)
        refine aw_alo 0 (pcn := 96) rfl dX7_unlock_95 rfl rfl (rf_some _) ?_
        refine aw_getf (pcn := 99) fl_X7_52 dX7_unlock_96 rfl hW.mo rfl ?_
        refine aw_iload (pcn := 101) dX7_unlock_99 rfl rfl ?_
        refine aw_iload (pcn := 103) dX7_unlock_101 rfl rfl ?_
        refine aw_iaddN (pcn := 104) dX7_unlock_103 rfl ?_
        refine aw_iconst (v := nI 0) (pcn := 105) dX7_unlock_104 rfl (by decide) ?_
        refine aw_iastM (j := 19) (pcn := 106) hW dX7_unlock_105 rfl (show _ < 2240 by omega) (fun h hW => ?_)
        refine aw_iinc (v := nI 5) (pcn := 109) dX7_unlock_106 rfl (by decide) rfl (by decide) ?_
        dsimp only [List.set_cons_zero, List.set_cons_succ]
        refine aw_goto (t := 89) dX7_unlock_109 (by decide) ?_
        refine aw_iload (pcn := 91) dX7_unlock_89 rfl rfl ?_
        refine aw_iconst (v := nI 5) (pcn := 92) dX7_unlock_91 rfl (by decide) ?_
        refine aw_icmp_ge (t := 112) (pcn := 95) dX7_unlock_92 rfl (by decide) (fun q15 => ?_) (fun q15 => absurd (by decide) q15)
        refine aw_iload (pcn := 114) dX7_unlock_112 rfl rfl ?_
        exact aw_iret dX7_unlock_114 rfl ⟨_, rfl, ret2 (by rw [unlockT_eq hS hc8 hc0 hK hqq.1 hl2, if_neg (by rw [q2]; decide)]; first | (rw [if_pos q3, show lkT Tr S K 1 = nI P from hP1, ix_nI (by omega)]; rfl) | (rw [if_neg q3, show lkT Tr S K 2 = nI P from hP1, ix_nI (by omega)]; rfl)) hW⟩
    · refine aw_bipush (v := -2) (pcn := 21) dX7_unlock_19 rfl (by decide) ?_
      exact aw_iret dX7_unlock_21 rfl ⟨_, rfl, ret2 (by rw [unlockT_eq hS hc8 hc0 hK hqq.1 hl2, if_pos q2]) hW⟩
  · have hor : isST Tr s = false ∨ isLT Tr (ix s) p = false := by
      have := q1
      cases h1 : isST Tr s
      · exact Or.inl rfl
      · rw [h1, Bool.true_and] at this; exact Or.inr this
    refine aw_iconst (v := -1) (pcn := 10) dX7_unlock_9 rfl (by decide) ?_
    exact aw_iret dX7_unlock_10 rfl ⟨_, rfl, ret2 (by unfold unlockT; rw [if_pos hor]) hW⟩

set_option maxHeartbeats 8000000 in
set_option maxRecDepth 20000 in
theorem r_a_game {X : XG} {l : Launch} {Γ : NM} {ow : Nat → Nat × Nat} {h : Hp} {T Tr : TB} {nh : Nat} (hW : WD Γ ow h T Tr nh) {i C n Z hN : Nat} (hI : Iv i Tr C n Z hN) (s f t v e : Int32) : AM X l yX7_game cX7_game 7 (some .int) 4 0 0 [.ref (Γ 14 0), .int s, .int f, .int t, .int v, .int e] h (qi fun r h' => r = (gameT Tr s f t v e).1 ∧ WD Γ ow h' T (gameT Tr s f t v e).2 nh) := by
  refine AM.of (by decide +kernel) (by simp [Value.category]) (Nat.le_of_ble_eq_true rfl) ?_
  show AW X l cX7_game RX7 "game" (some .int) 7 4 none _ 0 0 0 [some (.ref (Γ 14 0)), some (.int s), some (.int f), some (.int t), some (.int v), some (.int e), none] [] h
  have h64 := hI.n64
  have h8 := hI.C8
  have h16 := hI.Z16
  have h4 := hI.h4
  refine aw_alo 0 (pcn := 1) rfl dX7_game_0 rfl rfl (rf_some _) ?_
  refine aw_ilo 1 (pcn := 2) rfl dX7_game_1 rfl rfl ?_
  refine aw_ilo 2 (pcn := 3) rfl dX7_game_2 rfl rfl ?_
  refine aw_Vi (pcn := 6) (r_isOf hW hI.oST' _) mf_X7_isOf mv_X7_isOf hW.mo rfl ml_X7_155 rfl (by decide) (by decide) (by decide) (by exact Nat.le_of_ble_eq_true rfl) rfl dX7_game_3 rfl (fun r h2 hq => ?_)
  obtain ⟨rfl, hq⟩ := hq
  obtain rfl := hq.symm
  refine aw_if_eqB (t := 18) (pcn := 9) dX7_game_6 rfl (by decide) (fun q1 => ?_) (fun q1 => ?_)
  · refine aw_iconst (v := -1) (pcn := 19) dX7_game_18 rfl (by decide) ?_
    exact aw_iret dX7_game_19 rfl ⟨_, rfl, ret2 (by first | (simp only [gameT, q1, Bool.false_eq_true, Bool.true_eq_false, reduceCtorEq, if_true, if_false, or_false, false_or, or_true, true_or, and_true, true_and, and_false, false_and, not_true_eq_false, not_false_eq_true, or_self, ← Int32.not_le, frT, isCT, isST, isPT, isZT, shiT]; done) | (rw [gameT_eq hS hc8 hc0 hF hP (by assumption) (by assumption)]; simp only [q1, Bool.false_eq_true, Bool.true_eq_false, reduceCtorEq, if_true, if_false, or_false, false_or, or_true, true_or, and_true, true_and, and_false, false_and, not_true_eq_false, not_false_eq_true, or_self, ← Int32.not_le, frT, isCT, isST, isPT, isZT, shiT]; done) | (rw [gameT_eq hS hc8 hc0 hF hP (by assumption) (by assumption)]; simp only [q1, Bool.false_eq_true, Bool.true_eq_false, reduceCtorEq, if_true, if_false, or_false, false_or, or_true, true_or, and_true, true_and, and_false, false_and, not_true_eq_false, not_false_eq_true, or_self, ← Int32.not_le, frT, isCT, isST, isPT, isZT, shiT]; rfl) | (rw [gameT_eq hS hc8 hc0 hF hP (by assumption) (by assumption)]; rfl)) (hW)⟩
  · obtain ⟨S, c, F, rfl, rfl, hSn, hcC, hF, hc0, hm1⟩ := hI.oOf q1
    have hS : S < 64 := by omega
    have hc8 : c < 8 := by omega
    refine aw_alo 0 (pcn := 10) rfl dX7_game_9 rfl rfl (rf_some _) ?_
    refine aw_ilo 1 (pcn := 11) rfl dX7_game_10 rfl rfl ?_
    refine aw_ilo 3 (pcn := 12) rfl dX7_game_11 rfl rfl ?_
    refine aw_Vi (pcn := 15) (r_isOf hW hI.oST' _) mf_X7_isOf mv_X7_isOf hW.mo rfl ml_X7_155 rfl (by decide) (by decide) (by decide) (by exact Nat.le_of_ble_eq_true rfl) rfl dX7_game_12 rfl (fun r h2 hq => ?_)
    obtain ⟨rfl, hq⟩ := hq
    obtain rfl := hq.symm
    refine aw_if_neB (t := 20) (pcn := 18) dX7_game_15 rfl (by decide) (fun q2 => ?_) (fun q2 => ?_)
    · obtain ⟨P, hP, rfl⟩ := Iv.oOfP q2
      refine aw_alo 0 (pcn := 21) rfl dX7_game_20 rfl rfl (rf_some _) ?_
      refine aw_ilo 1 (pcn := 22) rfl dX7_game_21 rfl rfl ?_
      refine aw_Vi (pcn := 25) (r_isFixed hW (S := S) (c := c) hS hc8 hc0) mf_X7_isFixed mv_X7_isFixed hW.mo rfl ml_X7_158 rfl (by decide) (by decide) (by decide) (by exact Nat.le_of_ble_eq_true rfl) rfl dX7_game_22 rfl (fun r h2 hq => ?_)
      obtain ⟨rfl, hq⟩ := hq
      obtain rfl := hq.symm
      refine aw_if_eqB (t := 31) (pcn := 28) dX7_game_25 rfl (by decide) (fun q3 => ?_) (fun q3 => ?_)
      · refine aw_iload (pcn := 33) dX7_game_31 rfl rfl ?_
        refine aw_iconst (v := nI 1) (pcn := 34) dX7_game_33 rfl (by decide) ?_
        refine aw_sipush (v := nI 10000) (pcn := 37) dX7_game_34 rfl (by decide) ?_
        refine aw_Si (pcn := 40) (r_isIn _ _ _) mf_X7_isIn mv_X7_isIn ml_X7_64 rfl (by decide) (by decide) (by decide) (by exact Nat.le_of_ble_eq_true rfl) rfl dX7_game_37 rfl (fun r h2 hq => ?_)
        obtain ⟨rfl, hq⟩ := hq
        obtain rfl := hq.symm
        refine aw_if_eqB (t := 54) (pcn := 43) dX7_game_40 rfl (by decide) (fun q4 => ?_) (fun q4 => ?_)
        · refine aw_bipush (v := -3) (pcn := 56) dX7_game_54 rfl (by decide) ?_
          exact aw_iret dX7_game_56 rfl ⟨_, rfl, ret2 (by first | (simp only [gameT, q1, q2, q3, q4, Bool.false_eq_true, Bool.true_eq_false, reduceCtorEq, if_true, if_false, or_false, false_or, or_true, true_or, and_true, true_and, and_false, false_and, not_true_eq_false, not_false_eq_true, or_self, ← Int32.not_le, frT, isCT, isST, isPT, isZT, shiT]; done) | (rw [gameT_eq hS hc8 hc0 hF hP (by assumption) (by assumption)]; simp only [q1, q2, q3, q4, Bool.false_eq_true, Bool.true_eq_false, reduceCtorEq, if_true, if_false, or_false, false_or, or_true, true_or, and_true, true_and, and_false, false_and, not_true_eq_false, not_false_eq_true, or_self, ← Int32.not_le, frT, isCT, isST, isPT, isZT, shiT]; done) | (rw [gameT_eq hS hc8 hc0 hF hP (by assumption) (by assumption)]; simp only [q1, q2, q3, q4, Bool.false_eq_true, Bool.true_eq_false, reduceCtorEq, if_true, if_false, or_false, false_or, or_true, true_or, and_true, true_and, and_false, false_and, not_true_eq_false, not_false_eq_true, or_self, ← Int32.not_le, frT, isCT, isST, isPT, isZT, shiT]; rfl) | (rw [gameT_eq hS hc8 hc0 hF hP (by assumption) (by assumption)]; rfl)) (hW)⟩
        · refine aw_iload (pcn := 45) dX7_game_43 rfl rfl ?_
          refine aw_iconst (v := nI 1) (pcn := 46) dX7_game_45 rfl (by decide) ?_
          refine aw_bipush (v := nI 20) (pcn := 48) dX7_game_46 rfl (by decide) ?_
          refine aw_Si (pcn := 51) (r_isIn _ _ _) mf_X7_isIn mv_X7_isIn ml_X7_64 rfl (by decide) (by decide) (by decide) (by exact Nat.le_of_ble_eq_true rfl) rfl dX7_game_48 rfl (fun r h2 hq => ?_)
          obtain ⟨rfl, hq⟩ := hq
          obtain rfl := hq.symm
          refine aw_if_neB (t := 57) (pcn := 54) dX7_game_51 rfl (by decide) (fun q5 => ?_) (fun q5 => ?_)
          · refine aw_bipush (v := nI 35) (pcn := 59) dX7_game_57 rfl (by decide) ?_
            refine aw_ilo 1 (pcn := 60) rfl dX7_game_59 rfl rfl ?_
            refine aw_imulN (pcn := 61) dX7_game_60 rfl ?_
            refine aw_istore (pcn := 63) dX7_game_61 rfl (by decide) ?_
            dsimp only [List.set_cons_zero, List.set_cons_succ]
            refine aw_ilo 2 (pcn := 64) rfl dX7_game_63 rfl rfl ?_
            refine aw_ilo 3 (pcn := 65) rfl dX7_game_64 rfl rfl ?_
            refine aw_icmp_eq (t := 103) (pcn := 68) dX7_game_65 rfl (by decide) (fun q6 => ?_) (fun q6 => ?_)
            · refine aw_bipush (v := -4) (pcn := 105) dX7_game_103 rfl (by decide) ?_
              exact aw_iret dX7_game_105 rfl ⟨_, rfl, ret2 (by first | (simp only [gameT, q1, q2, q3, q4, q5, q6, Bool.false_eq_true, Bool.true_eq_false, reduceCtorEq, if_true, if_false, or_false, false_or, or_true, true_or, and_true, true_and, and_false, false_and, not_true_eq_false, not_false_eq_true, or_self, ← Int32.not_le, frT, isCT, isST, isPT, isZT, shiT]; done) | (rw [gameT_eq hS hc8 hc0 hF hP (by assumption) (by assumption)]; simp only [q1, q2, q3, q4, q5, q6, Bool.false_eq_true, Bool.true_eq_false, reduceCtorEq, if_true, if_false, or_false, false_or, or_true, true_or, and_true, true_and, and_false, false_and, not_true_eq_false, not_false_eq_true, or_self, ← Int32.not_le, frT, isCT, isST, isPT, isZT, shiT]; done) | (rw [gameT_eq hS hc8 hc0 hF hP (by assumption) (by assumption)]; simp only [q1, q2, q3, q4, q5, q6, Bool.false_eq_true, Bool.true_eq_false, reduceCtorEq, if_true, if_false, or_false, false_or, or_true, true_or, and_true, true_and, and_false, false_and, not_true_eq_false, not_false_eq_true, or_self, ← Int32.not_le, frT, isCT, isST, isPT, isZT, shiT]; rfl) | (rw [gameT_eq hS hc8 hc0 hF hP (by assumption) (by assumption)]; rfl)) (hW)⟩
            · refine aw_alo 0 (pcn := 69) rfl dX7_game_68 rfl rfl (rf_some _) ?_
              refine aw_getf (pcn := 72) fl_X7_52 dX7_game_69 rfl hW.mo rfl ?_
              refine aw_iload (pcn := 74) dX7_game_72 rfl rfl ?_
              refine aw_bipush (v := nI 31) (pcn := 76) dX7_game_74 rfl (by decide) ?_
              refine aw_iaddN (pcn := 77) dX7_game_76 rfl ?_
              refine aw_ialdM (j := 19) (pcn := 78) hW dX7_game_77 rfl (show _ < 2240 by omega) ?_
              refine aw_if_gt (t := 103) (pcn := 81) dX7_game_78 rfl (by decide) (fun q7 => ?_) (fun q7 => ?_)
              · replace q7 := Int32.not_le.mpr q7
                refine aw_bipush (v := -4) (pcn := 105) dX7_game_103 rfl (by decide) ?_
                exact aw_iret dX7_game_105 rfl ⟨_, rfl, ret2 (by first | (simp only [gameT, q1, q2, q3, q4, q5, q6, q7, Bool.false_eq_true, Bool.true_eq_false, reduceCtorEq, if_true, if_false, or_false, false_or, or_true, true_or, and_true, true_and, and_false, false_and, not_true_eq_false, not_false_eq_true, or_self, ← Int32.not_le, frT, isCT, isST, isPT, isZT, shiT]; done) | (rw [gameT_eq hS hc8 hc0 hF hP (by assumption) (by assumption)]; simp only [q1, q2, q3, q4, q5, q6, q7, Bool.false_eq_true, Bool.true_eq_false, reduceCtorEq, if_true, if_false, or_false, false_or, or_true, true_or, and_true, true_and, and_false, false_and, not_true_eq_false, not_false_eq_true, or_self, ← Int32.not_le, frT, isCT, isST, isPT, isZT, shiT]; done) | (rw [gameT_eq hS hc8 hc0 hF hP (by assumption) (by assumption)]; simp only [q1, q2, q3, q4, q5, q6, q7, Bool.false_eq_true, Bool.true_eq_false, reduceCtorEq, if_true, if_false, or_false, false_or, or_true, true_or, and_true, true_and, and_false, false_and, not_true_eq_false, not_false_eq_true, or_self, ← Int32.not_le, frT, isCT, isST, isPT, isZT, shiT]; rfl) | (rw [gameT_eq hS hc8 hc0 hF hP (by assumption) (by assumption)]; rfl)) (hW)⟩
              · replace q7 := Int32.not_lt.mp q7
                refine aw_alo 0 (pcn := 82) rfl dX7_game_81 rfl rfl (rf_some _) ?_
                refine aw_ilo 1 (pcn := 83) rfl dX7_game_82 rfl rfl ?_
                refine aw_ilo 2 (pcn := 84) rfl dX7_game_83 rfl rfl ?_
                refine aw_Vi (pcn := 87) (r_free hW (S := S) (P := _) hS (by omega)) mf_X7_free mv_X7_free hW.mo rfl ml_X7_162 rfl (by decide) (by decide) (by decide) (by exact Nat.le_of_ble_eq_true rfl) rfl dX7_game_84 rfl (fun r h2 hq => ?_)
                obtain ⟨rfl, hq⟩ := hq
                obtain rfl := hq.symm
                refine aw_iload (pcn := 89) dX7_game_87 rfl rfl ?_
                refine aw_icmp_lt (t := 103) (pcn := 92) dX7_game_89 rfl (by decide) (fun q8 => ?_) (fun q8 => ?_)
                · replace q8 := Int32.not_le.mpr q8
                  refine aw_bipush (v := -4) (pcn := 105) dX7_game_103 rfl (by decide) ?_
                  exact aw_iret dX7_game_105 rfl ⟨_, rfl, ret2 (by first | (simp only [gameT, q1, q2, q3, q4, q5, q6, q7, q8, Bool.false_eq_true, Bool.true_eq_false, reduceCtorEq, if_true, if_false, or_false, false_or, or_true, true_or, and_true, true_and, and_false, false_and, not_true_eq_false, not_false_eq_true, or_self, ← Int32.not_le, frT, isCT, isST, isPT, isZT, shiT]; done) | (rw [gameT_eq hS hc8 hc0 hF hP (by assumption) (by assumption)]; simp only [q1, q2, q3, q4, q5, q6, q7, q8, Bool.false_eq_true, Bool.true_eq_false, reduceCtorEq, if_true, if_false, or_false, false_or, or_true, true_or, and_true, true_and, and_false, false_and, not_true_eq_false, not_false_eq_true, or_self, ← Int32.not_le, frT, isCT, isST, isPT, isZT, shiT]; done) | (rw [gameT_eq hS hc8 hc0 hF hP (by assumption) (by assumption)]; simp only [q1, q2, q3, q4, q5, q6, q7, q8, Bool.false_eq_true, Bool.true_eq_false, reduceCtorEq, if_true, if_false, or_false, false_or, or_true, true_or, and_true, true_and, and_false, false_and, not_true_eq_false, not_false_eq_true, or_self, ← Int32.not_le, frT, isCT, isST, isPT, isZT, shiT]; rfl) | (rw [gameT_eq hS hc8 hc0 hF hP (by assumption) (by assumption)]; rfl)) (hW)⟩
                · replace q8 := Int32.not_lt.mp q8
                  refine aw_alo 0 (pcn := 93) rfl dX7_game_92 rfl rfl (rf_some _) ?_
                  refine aw_ilo 1 (pcn := 94) rfl dX7_game_93 rfl rfl ?_
                  refine aw_ilo 3 (pcn := 95) rfl dX7_game_94 rfl rfl ?_
                  refine aw_Vi (pcn := 98) (r_free hW (S := S) (P := _) hS (by omega)) mf_X7_free mv_X7_free hW.mo rfl ml_X7_162 rfl (by decide) (by decide) (by decide) (by exact Nat.le_of_ble_eq_true rfl) rfl dX7_game_95 rfl (fun r h2 hq => ?_)
                  obtain ⟨rfl, hq⟩ := hq
                  obtain rfl := hq.symm
                  refine aw_iload (pcn := 100) dX7_game_98 rfl rfl ?_
                  refine aw_icmp_ge (t := 106) (pcn := 103) dX7_game_100 rfl (by decide) (fun q9 => ?_) (fun q9 => ?_)
                  · refine aw_alo 0 (pcn := 107) rfl dX7_game_106 rfl rfl (rf_some _) ?_
                    refine aw_getf (pcn := 110) fl_X7_52 dX7_game_107 rfl hW.mo rfl ?_
                    refine aw_iload (pcn := 112) dX7_game_110 rfl rfl ?_
                    refine aw_iconst (v := nI 4) (pcn := 113) dX7_game_112 rfl (by decide) ?_
                    refine aw_iaddN (pcn := 114) dX7_game_113 rfl ?_
                    refine aw_ilo 2 (pcn := 115) rfl dX7_game_114 rfl rfl ?_
                    refine aw_iaddN (pcn := 116) dX7_game_115 rfl ?_
                    refine aw_dup2 (pcn := 117) dX7_game_116 rfl rfl rfl ?_
                    refine aw_ialdM (j := 19) (pcn := 118) hW dX7_game_117 rfl (show _ < 2240 by omega) ?_
                    refine aw_iload (pcn := 120) dX7_game_118 rfl rfl ?_
                    refine aw_isub (pcn := 121) dX7_game_120 rfl ?_
                    refine aw_iastM (j := 19) (pcn := 122) hW dX7_game_121 rfl (show _ < 2240 by omega) (fun h hW => ?_)
                    refine aw_alo 0 (pcn := 123) rfl dX7_game_122 rfl rfl (rf_some _) ?_
                    refine aw_getf (pcn := 126) fl_X7_52 dX7_game_123 rfl hW.mo rfl ?_
                    refine aw_iload (pcn := 128) dX7_game_126 rfl rfl ?_
                    refine aw_iconst (v := nI 4) (pcn := 129) dX7_game_128 rfl (by decide) ?_
                    refine aw_iaddN (pcn := 130) dX7_game_129 rfl ?_
                    refine aw_ilo 3 (pcn := 131) rfl dX7_game_130 rfl rfl ?_
                    refine aw_iaddN (pcn := 132) dX7_game_131 rfl ?_
                    refine aw_dup2 (pcn := 133) dX7_game_132 rfl rfl rfl ?_
                    refine aw_ialdM (j := 19) (pcn := 134) hW dX7_game_133 rfl (show _ < 2240 by omega) ?_
                    refine aw_iload (pcn := 136) dX7_game_134 rfl rfl ?_
                    refine aw_isub (pcn := 137) dX7_game_136 rfl ?_
                    refine aw_iastM (j := 19) (pcn := 138) hW dX7_game_137 rfl (show _ < 2240 by omega) (fun h hW => ?_)
                    refine aw_alo 0 (pcn := 139) rfl dX7_game_138 rfl rfl (rf_some _) ?_
                    refine aw_getf (pcn := 142) fl_X7_52 dX7_game_139 rfl hW.mo rfl ?_
                    refine aw_iload (pcn := 144) dX7_game_142 rfl rfl ?_
                    refine aw_bipush (v := nI 31) (pcn := 146) dX7_game_144 rfl (by decide) ?_
                    refine aw_iaddN (pcn := 147) dX7_game_146 rfl ?_
                    refine aw_iconst (v := nI 2) (pcn := 148) dX7_game_147 rfl (by decide) ?_
                    refine aw_iload (pcn := 150) dX7_game_148 rfl rfl ?_
                    refine aw_imul (pcn := 151) dX7_game_150 rfl ?_
                    refine aw_iastM (j := 19) (pcn := 152) hW dX7_game_151 rfl (show _ < 2240 by omega) (fun h hW => ?_)
                    refine aw_alo 0 (pcn := 153) rfl dX7_game_152 rfl rfl (rf_some _) ?_
                    refine aw_getf (pcn := 156) fl_X7_52 dX7_game_153 rfl hW.mo rfl ?_
                    refine aw_iload (pcn := 158) dX7_game_156 rfl rfl ?_
                    refine aw_bipush (v := nI 32) (pcn := 160) dX7_game_158 rfl (by decide) ?_
                    refine aw_iaddN (pcn := 161) dX7_game_160 rfl ?_
                    refine aw_iload (pcn := 163) dX7_game_161 rfl rfl ?_
                    refine aw_iastM (j := 19) (pcn := 164) hW dX7_game_163 rfl (show _ < 2240 by omega) (fun h hW => ?_)
                    refine aw_alo 0 (pcn := 165) rfl dX7_game_164 rfl rfl (rf_some _) ?_
                    refine aw_getf (pcn := 168) fl_X7_52 dX7_game_165 rfl hW.mo rfl ?_
                    refine aw_iload (pcn := 170) dX7_game_168 rfl rfl ?_
                    refine aw_bipush (v := nI 33) (pcn := 172) dX7_game_170 rfl (by decide) ?_
                    refine aw_iaddN (pcn := 173) dX7_game_172 rfl ?_
                    refine aw_ilo 2 (pcn := 174) rfl dX7_game_173 rfl rfl ?_
                    refine aw_iastM (j := 19) (pcn := 175) hW dX7_game_174 rfl (show _ < 2240 by omega) (fun h hW => ?_)
                    refine aw_alo 0 (pcn := 176) rfl dX7_game_175 rfl rfl (rf_some _) ?_
                    refine aw_getf (pcn := 179) fl_X7_52 dX7_game_176 rfl hW.mo rfl ?_
                    refine aw_iload (pcn := 181) dX7_game_179 rfl rfl ?_
                    refine aw_bipush (v := nI 34) (pcn := 183) dX7_game_181 rfl (by decide) ?_
                    refine aw_iaddN (pcn := 184) dX7_game_183 rfl ?_
                    refine aw_ilo 3 (pcn := 185) rfl dX7_game_184 rfl rfl ?_
                    refine aw_iastM (j := 19) (pcn := 186) hW dX7_game_185 rfl (show _ < 2240 by omega) (fun h hW => ?_)
                    refine aw_iconst (v := nI 2) (pcn := 187) dX7_game_186 rfl (by decide) ?_
                    refine aw_iload (pcn := 189) dX7_game_187 rfl rfl ?_
                    refine aw_imul (pcn := 190) dX7_game_189 rfl ?_
                    exact aw_iret dX7_game_190 rfl ⟨_, rfl, ret2 (by first | (simp only [gameT, q1, q2, q3, q4, q5, q6, q7, q8, q9, Bool.false_eq_true, Bool.true_eq_false, reduceCtorEq, if_true, if_false, or_false, false_or, or_true, true_or, and_true, true_and, and_false, false_and, not_true_eq_false, not_false_eq_true, or_self, ← Int32.not_le, frT, isCT, isST, isPT, isZT, shiT]; done) | (rw [gameT_eq hS hc8 hc0 hF hP (by assumption) (by assumption)]; simp only [q1, q2, q3, q4, q5, q6, q7, q8, q9, Bool.false_eq_true, Bool.true_eq_false, reduceCtorEq, if_true, if_false, or_false, false_or, or_true, true_or, and_true, true_and, and_false, false_and, not_true_eq_false, not_false_eq_true, or_self, ← Int32.not_le, frT, isCT, isST, isPT, isZT, shiT]; done) | (rw [gameT_eq hS hc8 hc0 hF hP (by assumption) (by assumption)]; simp only [q1, q2, q3, q4, q5, q6, q7, q8, q9, Bool.false_eq_true, Bool.true_eq_false, reduceCtorEq, if_true, if_false, or_false, false_or, or_true, true_or, and_true, true_and, and_false, false_and, not_true_eq_false, not_false_eq_true, or_self, ← Int32.not_le, frT, isCT, isST, isPT, isZT, shiT]; rfl) | (rw [gameT_eq hS hc8 hc0 hF hP (by assumption) (by assumption)]; rfl)) (hW)⟩
                  · refine aw_bipush (v := -4) (pcn := 105) dX7_game_103 rfl (by decide) ?_
                    exact aw_iret dX7_game_105 rfl ⟨_, rfl, ret2 (by first | (simp only [gameT, q1, q2, q3, q4, q5, q6, q7, q8, q9, Bool.false_eq_true, Bool.true_eq_false, reduceCtorEq, if_true, if_false, or_false, false_or, or_true, true_or, and_true, true_and, and_false, false_and, not_true_eq_false, not_false_eq_true, or_self, ← Int32.not_le, frT, isCT, isST, isPT, isZT, shiT]; done) | (rw [gameT_eq hS hc8 hc0 hF hP (by assumption) (by assumption)]; simp only [q1, q2, q3, q4, q5, q6, q7, q8, q9, Bool.false_eq_true, Bool.true_eq_false, reduceCtorEq, if_true, if_false, or_false, false_or, or_true, true_or, and_true, true_and, and_false, false_and, not_true_eq_false, not_false_eq_true, or_self, ← Int32.not_le, frT, isCT, isST, isPT, isZT, shiT]; done) | (rw [gameT_eq hS hc8 hc0 hF hP (by assumption) (by assumption)]; simp only [q1, q2, q3, q4, q5, q6, q7, q8, q9, Bool.false_eq_true, Bool.true_eq_false, reduceCtorEq, if_true, if_false, or_false, false_or, or_true, true_or, and_true, true_and, and_false, false_and, not_true_eq_false, not_false_eq_true, or_self, ← Int32.not_le, frT, isCT, isST, isPT, isZT, shiT]; rfl) | (rw [gameT_eq hS hc8 hc0 hF hP (by assumption) (by assumption)]; rfl)) (hW)⟩
          · refine aw_bipush (v := -3) (pcn := 56) dX7_game_54 rfl (by decide) ?_
            exact aw_iret dX7_game_56 rfl ⟨_, rfl, ret2 (by first | (simp only [gameT, q1, q2, q3, q4, q5, Bool.false_eq_true, Bool.true_eq_false, reduceCtorEq, if_true, if_false, or_false, false_or, or_true, true_or, and_true, true_and, and_false, false_and, not_true_eq_false, not_false_eq_true, or_self, ← Int32.not_le, frT, isCT, isST, isPT, isZT, shiT]; done) | (rw [gameT_eq hS hc8 hc0 hF hP (by assumption) (by assumption)]; simp only [q1, q2, q3, q4, q5, Bool.false_eq_true, Bool.true_eq_false, reduceCtorEq, if_true, if_false, or_false, false_or, or_true, true_or, and_true, true_and, and_false, false_and, not_true_eq_false, not_false_eq_true, or_self, ← Int32.not_le, frT, isCT, isST, isPT, isZT, shiT]; done) | (rw [gameT_eq hS hc8 hc0 hF hP (by assumption) (by assumption)]; simp only [q1, q2, q3, q4, q5, Bool.false_eq_true, Bool.true_eq_false, reduceCtorEq, if_true, if_false, or_false, false_or, or_true, true_or, and_true, true_and, and_false, false_and, not_true_eq_false, not_false_eq_true, or_self, ← Int32.not_le, frT, isCT, isST, isPT, isZT, shiT]; rfl) | (rw [gameT_eq hS hc8 hc0 hF hP (by assumption) (by assumption)]; rfl)) (hW)⟩
      · refine aw_bipush (v := -2) (pcn := 30) dX7_game_28 rfl (by decide) ?_
        exact aw_iret dX7_game_30 rfl ⟨_, rfl, ret2 (by first | (simp only [gameT, q1, q2, q3, Bool.false_eq_true, Bool.true_eq_false, reduceCtorEq, if_true, if_false, or_false, false_or, or_true, true_or, and_true, true_and, and_false, false_and, not_true_eq_false, not_false_eq_true, or_self, ← Int32.not_le, frT, isCT, isST, isPT, isZT, shiT]; done) | (rw [gameT_eq hS hc8 hc0 hF hP (by assumption) (by assumption)]; simp only [q1, q2, q3, Bool.false_eq_true, Bool.true_eq_false, reduceCtorEq, if_true, if_false, or_false, false_or, or_true, true_or, and_true, true_and, and_false, false_and, not_true_eq_false, not_false_eq_true, or_self, ← Int32.not_le, frT, isCT, isST, isPT, isZT, shiT]; done) | (rw [gameT_eq hS hc8 hc0 hF hP (by assumption) (by assumption)]; simp only [q1, q2, q3, Bool.false_eq_true, Bool.true_eq_false, reduceCtorEq, if_true, if_false, or_false, false_or, or_true, true_or, and_true, true_and, and_false, false_and, not_true_eq_false, not_false_eq_true, or_self, ← Int32.not_le, frT, isCT, isST, isPT, isZT, shiT]; rfl) | (rw [gameT_eq hS hc8 hc0 hF hP (by assumption) (by assumption)]; rfl)) (hW)⟩
    · refine aw_iconst (v := -1) (pcn := 19) dX7_game_18 rfl (by decide) ?_
      exact aw_iret dX7_game_19 rfl ⟨_, rfl, ret2 (by first | (simp only [gameT, q1, q2, Bool.false_eq_true, Bool.true_eq_false, reduceCtorEq, if_true, if_false, or_false, false_or, or_true, true_or, and_true, true_and, and_false, false_and, not_true_eq_false, not_false_eq_true, or_self, ← Int32.not_le, frT, isCT, isST, isPT, isZT, shiT]; done) | (rw [gameT_eq hS hc8 hc0 hF hP (by assumption) (by assumption)]; simp only [q1, q2, Bool.false_eq_true, Bool.true_eq_false, reduceCtorEq, if_true, if_false, or_false, false_or, or_true, true_or, and_true, true_and, and_false, false_and, not_true_eq_false, not_false_eq_true, or_self, ← Int32.not_le, frT, isCT, isST, isPT, isZT, shiT]; done) | (rw [gameT_eq hS hc8 hc0 hF hP (by assumption) (by assumption)]; simp only [q1, q2, Bool.false_eq_true, Bool.true_eq_false, reduceCtorEq, if_true, if_false, or_false, false_or, or_true, true_or, and_true, true_and, and_false, false_and, not_true_eq_false, not_false_eq_true, or_self, ← Int32.not_le, frT, isCT, isST, isPT, isZT, shiT]; rfl) | (rw [gameT_eq hS hc8 hc0 hF hP (by assumption) (by assumption)]; rfl)) (hW)⟩

theorem Iv.gT {i : Nat} {T : TB} {C n Z hN : Nat} (H : Iv i T C n Z hN) {s : Nat} (hs : s < n) (h0 : ¬ T 19 (35 * s + 31) = 0) : okI (T 19 (35 * s + 33)) 6 := ((H.st hs).2.2.2.1.2 h0).1
set_option maxHeartbeats 8000000 in
set_option maxRecDepth 20000 in
theorem r_a_move {X : XG} {l : Launch} {Γ : NM} {ow : Nat → Nat × Nat} {h : Hp} {T Tr : TB} {nh : Nat} (hW : WD Γ ow h T Tr nh) {i C n Z hN : Nat} (hI : Iv i Tr C n Z hN) (s t : Int32) : AM X l yX7_move cX7_move 5 (some .int) 2 0 0 [.ref (Γ 14 0), .int s, .int t] h (qi fun r h' => r = (moveT Tr s t).1 ∧ WD Γ ow h' T (moveT Tr s t).2 nh) := by
  refine AM.of (by decide +kernel) (by simp [Value.category]) (Nat.le_of_ble_eq_true rfl) ?_
  show AW X l cX7_move RX7 "move" (some .int) 5 2 none _ 0 0 0 [some (.ref (Γ 14 0)), some (.int s), some (.int t), none, none] [] h
  have h64 := hI.n64
  have h8 := hI.C8
  have h16 := hI.Z16
  have h4 := hI.h4
  refine aw_alo 0 (pcn := 1) rfl dX7_move_0 rfl rfl (rf_some _) ?_
  refine aw_ilo 1 (pcn := 2) rfl dX7_move_1 rfl rfl ?_
  refine aw_Vi (pcn := 5) (r_isState hW _) mf_X7_isState mv_X7_isState hW.mo rfl ml_X7_83 rfl (by decide) (by decide) (by decide) (by exact Nat.le_of_ble_eq_true rfl) rfl dX7_move_2 rfl (fun r h2 hq => ?_)
  obtain ⟨rfl, hq⟩ := hq
  obtain rfl := hq.symm
  refine aw_if_neB (t := 10) (pcn := 8) dX7_move_5 rfl (by decide) (fun q1 => ?_) (fun q1 => ?_)
  · obtain ⟨S, c, rfl, hSn, hcC, hc0⟩ := hI.oST q1
    have hS : S < 64 := by omega
    have hc8 : c < 8 := by omega
    refine aw_alo 0 (pcn := 11) rfl dX7_move_10 rfl rfl (rf_some _) ?_
    refine aw_ilo 1 (pcn := 12) rfl dX7_move_11 rfl rfl ?_
    refine aw_Vi (pcn := 15) (r_isFixed hW (S := S) (c := c) hS hc8 hc0) mf_X7_isFixed mv_X7_isFixed hW.mo rfl ml_X7_158 rfl (by decide) (by decide) (by decide) (by exact Nat.le_of_ble_eq_true rfl) rfl dX7_move_12 rfl (fun r h2 hq => ?_)
    obtain ⟨rfl, hq⟩ := hq
    obtain rfl := hq.symm
    refine aw_if_eqB (t := 21) (pcn := 18) dX7_move_15 rfl (by decide) (fun q2 => ?_) (fun q2 => ?_)
    · refine aw_ilo 2 (pcn := 22) rfl dX7_move_21 rfl rfl ?_
      refine aw_iconst (v := nI 1) (pcn := 23) dX7_move_22 rfl (by decide) ?_
      refine aw_iconst (v := nI 3) (pcn := 24) dX7_move_23 rfl (by decide) ?_
      refine aw_Si (pcn := 27) (r_isIn _ _ _) mf_X7_isIn mv_X7_isIn ml_X7_64 rfl (by decide) (by decide) (by decide) (by exact Nat.le_of_ble_eq_true rfl) rfl dX7_move_24 rfl (fun r h2 hq => ?_)
      obtain ⟨rfl, hq⟩ := hq
      obtain rfl := hq.symm
      refine aw_if_neB (t := 33) (pcn := 30) dX7_move_27 rfl (by decide) (fun q3 => ?_) (fun q3 => ?_)
      · refine aw_bipush (v := nI 35) (pcn := 35) dX7_move_33 rfl (by decide) ?_
        refine aw_ilo 1 (pcn := 36) rfl dX7_move_35 rfl rfl ?_
        refine aw_imulN (pcn := 37) dX7_move_36 rfl ?_
        refine aw_ist 3 (pcn := 38) rfl dX7_move_37 rfl (by decide) ?_
        dsimp only [List.set_cons_zero, List.set_cons_succ]
        refine aw_alo 0 (pcn := 39) rfl dX7_move_38 rfl rfl (rf_some _) ?_
        refine aw_getf (pcn := 42) fl_X7_52 dX7_move_39 rfl hW.mo rfl ?_
        refine aw_ilo 3 (pcn := 43) rfl dX7_move_42 rfl rfl ?_
        refine aw_bipush (v := nI 31) (pcn := 45) dX7_move_43 rfl (by decide) ?_
        refine aw_iaddN (pcn := 46) dX7_move_45 rfl ?_
        refine aw_ialdM (j := 19) (pcn := 47) hW dX7_move_46 rfl (show _ < 2240 by omega) ?_
        refine aw_if_eq (t := 63) (pcn := 50) dX7_move_47 rfl (by decide) (fun q4 => ?_) (fun q4 => ?_)
        · refine aw_bipush (v := -4) (pcn := 65) dX7_move_63 rfl (by decide) ?_
          exact aw_iret dX7_move_65 rfl ⟨_, rfl, ret2 (by first | (simp only [moveT, q1, q2, q3, q4, Bool.false_eq_true, Bool.true_eq_false, reduceCtorEq, if_true, if_false, or_false, false_or, or_true, true_or, and_true, true_and, and_false, false_and, not_true_eq_false, not_false_eq_true, or_self, ← Int32.not_le, frT, isCT, isST, isPT, isZT, shiT]; done) | (rw [moveT_eq hS hc8 hc0 (by assumption)]; simp only [q1, q2, q3, q4, Bool.false_eq_true, Bool.true_eq_false, reduceCtorEq, if_true, if_false, or_false, false_or, or_true, true_or, and_true, true_and, and_false, false_and, not_true_eq_false, not_false_eq_true, or_self, ← Int32.not_le, frT, isCT, isST, isPT, isZT, shiT]; done) | (rw [moveT_eq hS hc8 hc0 (by assumption)]; simp only [q1, q2, q3, q4, Bool.false_eq_true, Bool.true_eq_false, reduceCtorEq, if_true, if_false, or_false, false_or, or_true, true_or, and_true, true_and, and_false, false_and, not_true_eq_false, not_false_eq_true, or_self, ← Int32.not_le, frT, isCT, isST, isPT, isZT, shiT]; rfl) | (rw [moveT_eq hS hc8 hc0 (by assumption)]; rfl)) (hW)⟩
        · refine aw_alo 0 (pcn := 51) rfl dX7_move_50 rfl rfl (rf_some _) ?_
          refine aw_getf (pcn := 54) fl_X7_52 dX7_move_51 rfl hW.mo rfl ?_
          refine aw_ilo 3 (pcn := 55) rfl dX7_move_54 rfl rfl ?_
          refine aw_bipush (v := nI 32) (pcn := 57) dX7_move_55 rfl (by decide) ?_
          refine aw_iaddN (pcn := 58) dX7_move_57 rfl ?_
          refine aw_ialdM (j := 19) (pcn := 59) hW dX7_move_58 rfl (show _ < 2240 by omega) ?_
          refine aw_ilo 2 (pcn := 60) rfl dX7_move_59 rfl rfl ?_
          refine aw_icmp_ge (t := 66) (pcn := 63) dX7_move_60 rfl (by decide) (fun q5 => ?_) (fun q5 => ?_)
          · refine aw_alo 0 (pcn := 67) rfl dX7_move_66 rfl rfl (rf_some _) ?_
            refine aw_getf (pcn := 70) fl_X7_52 dX7_move_67 rfl hW.mo rfl ?_
            refine aw_ilo 3 (pcn := 71) rfl dX7_move_70 rfl rfl ?_
            refine aw_bipush (v := nI 33) (pcn := 73) dX7_move_71 rfl (by decide) ?_
            refine aw_iaddN (pcn := 74) dX7_move_73 rfl ?_
            refine aw_ialdM (j := 19) (pcn := 75) hW dX7_move_74 rfl (show _ < 2240 by omega) ?_
            obtain ⟨P, hP, hP1⟩ := hI.gT hSn (by assumption)
            rw [hP1]
            refine aw_istore (pcn := 77) dX7_move_75 rfl (by decide) ?_
            dsimp only [List.set_cons_zero, List.set_cons_succ]
            refine aw_alo 0 (pcn := 78) rfl dX7_move_77 rfl rfl (rf_some _) ?_
            refine aw_getf (pcn := 81) fl_X7_52 dX7_move_78 rfl hW.mo rfl ?_
            refine aw_ilo 3 (pcn := 82) rfl dX7_move_81 rfl rfl ?_
            refine aw_bipush (v := nI 32) (pcn := 84) dX7_move_82 rfl (by decide) ?_
            refine aw_iaddN (pcn := 85) dX7_move_84 rfl ?_
            refine aw_dup2 (pcn := 86) dX7_move_85 rfl rfl rfl ?_
            refine aw_ialdM (j := 19) (pcn := 87) hW dX7_move_86 rfl (show _ < 2240 by omega) ?_
            refine aw_ilo 2 (pcn := 88) rfl dX7_move_87 rfl rfl ?_
            refine aw_isub (pcn := 89) dX7_move_88 rfl ?_
            refine aw_iastM (j := 19) (pcn := 90) hW dX7_move_89 rfl (show _ < 2240 by omega) (fun h hW => ?_)
            refine aw_alo 0 (pcn := 91) rfl dX7_move_90 rfl rfl (rf_some _) ?_
            refine aw_getf (pcn := 94) fl_X7_52 dX7_move_91 rfl hW.mo rfl ?_
            refine aw_ilo 3 (pcn := 95) rfl dX7_move_94 rfl rfl ?_
            refine aw_bipush (v := nI 33) (pcn := 97) dX7_move_95 rfl (by decide) ?_
            refine aw_iaddN (pcn := 98) dX7_move_97 rfl ?_
            refine aw_alo 0 (pcn := 99) rfl dX7_move_98 rfl rfl (rf_some _) ?_
            refine aw_getf (pcn := 102) fl_X7_52 dX7_move_99 rfl hW.mo rfl ?_
            refine aw_ilo 3 (pcn := 103) rfl dX7_move_102 rfl rfl ?_
            refine aw_bipush (v := nI 34) (pcn := 105) dX7_move_103 rfl (by decide) ?_
            refine aw_iaddN (pcn := 106) dX7_move_105 rfl ?_
            refine aw_ialdM (j := 19) (pcn := 107) hW dX7_move_106 rfl (show _ < 2240 by omega) ?_
            rw [show (up Tr 19 (35 * S + 32) (Tr 19 (35 * S + 32) - t)) 19 (35 * S + 34) = Tr 19 (35 * S + 34) from up_i _ _ _ (by omega)]
            refine aw_iastM (j := 19) (pcn := 108) hW dX7_move_107 rfl (show _ < 2240 by omega) (fun h hW => ?_)
            refine aw_alo 0 (pcn := 109) rfl dX7_move_108 rfl rfl (rf_some _) ?_
            refine aw_getf (pcn := 112) fl_X7_52 dX7_move_109 rfl hW.mo rfl ?_
            refine aw_ilo 3 (pcn := 113) rfl dX7_move_112 rfl rfl ?_
            refine aw_bipush (v := nI 34) (pcn := 115) dX7_move_113 rfl (by decide) ?_
            refine aw_iaddN (pcn := 116) dX7_move_115 rfl ?_
            refine aw_iload (pcn := 118) dX7_move_116 rfl rfl ?_
            refine aw_iastM (j := 19) (pcn := 119) hW dX7_move_118 rfl (show _ < 2240 by omega) (fun h hW => ?_)
            refine aw_alo 0 (pcn := 120) rfl dX7_move_119 rfl rfl (rf_some _) ?_
            refine aw_getf (pcn := 123) fl_X7_52 dX7_move_120 rfl hW.mo rfl ?_
            refine aw_ilo 3 (pcn := 124) rfl dX7_move_123 rfl rfl ?_
            refine aw_bipush (v := nI 32) (pcn := 126) dX7_move_124 rfl (by decide) ?_
            refine aw_iaddN (pcn := 127) dX7_move_126 rfl ?_
            refine aw_ialdM (j := 19) (pcn := 128) hW dX7_move_127 rfl (show _ < 2240 by omega) ?_
            rw [up_i _ _ _ (show 35 * S + 32 ≠ 35 * S + 34 by omega), up_i _ _ _ (show 35 * S + 32 ≠ 35 * S + 33 by omega), up_s]
            refine aw_if_ne (t := 184) (pcn := 131) dX7_move_128 rfl (by decide) (fun q6 => ?_) (fun q6 => ?_)
            · refine aw_alo 0 (pcn := 185) rfl dX7_move_184 rfl rfl (rf_some _) ?_
              refine aw_getf (pcn := 188) fl_X7_52 dX7_move_185 rfl hW.mo rfl ?_
              refine aw_ilo 3 (pcn := 189) rfl dX7_move_188 rfl rfl ?_
              refine aw_bipush (v := nI 32) (pcn := 191) dX7_move_189 rfl (by decide) ?_
              refine aw_iaddN (pcn := 192) dX7_move_191 rfl ?_
              refine aw_ialdM (j := 19) (pcn := 193) hW dX7_move_192 rfl (show _ < 2240 by omega) ?_
              first | (rw [up_i _ _ _ (show 35 * S + 32 ≠ 35 * S + 34 by omega), up_i _ _ _ (show 35 * S + 32 ≠ 35 * S + 33 by omega), up_i _ _ _ (show 35 * S + 32 ≠ 35 * S + 31 by omega), up_i _ _ _ (show 35 * S + 32 ≠ 35 * S + 4 + P by omega), up_i _ _ _ (show 35 * S + 32 ≠ 35 * S + 34 by omega), up_i _ _ _ (show 35 * S + 32 ≠ 35 * S + 33 by omega), up_s]) | (rw [up_i _ _ _ (show 35 * S + 32 ≠ 35 * S + 34 by omega), up_i _ _ _ (show 35 * S + 32 ≠ 35 * S + 33 by omega), up_s])
              exact aw_iret dX7_move_193 rfl ⟨_, rfl, ret2 (by rw [moveT_eq hS hc8 hc0 (by assumption), if_neg (by simp only [q2, Bool.false_eq_true, Bool.true_eq_false, reduceCtorEq, if_true, if_false, or_false, false_or, or_true, true_or, and_true, true_and, and_false, false_and, not_true_eq_false, not_false_eq_true, or_self, ← Int32.not_le, frT, isCT, isST, isPT, isZT, shiT]), if_neg (by simp only [q3, Bool.false_eq_true, Bool.true_eq_false, reduceCtorEq, if_true, if_false, or_false, false_or, or_true, true_or, and_true, true_and, and_false, false_and, not_true_eq_false, not_false_eq_true, or_self, ← Int32.not_le, frT, isCT, isST, isPT, isZT, shiT]), if_neg (by simp only [q4, q5, Bool.false_eq_true, Bool.true_eq_false, reduceCtorEq, if_true, if_false, or_false, false_or, or_true, true_or, and_true, true_and, and_false, false_and, not_true_eq_false, not_false_eq_true, or_self, ← Int32.not_le, frT, isCT, isST, isPT, isZT, shiT])]; unfold movT mov0; rw [hP1, ix_nI (by omega)]; first | (rw [if_pos q6]; done) | (rw [if_pos q6]; rfl) | (rw [if_neg q6]; done) | (rw [if_neg q6]; rfl)) hW⟩
            · refine aw_alo 0 (pcn := 132) rfl dX7_move_131 rfl rfl (rf_some _) ?_
              refine aw_getf (pcn := 135) fl_X7_52 dX7_move_132 rfl hW.mo rfl ?_
              refine aw_ilo 3 (pcn := 136) rfl dX7_move_135 rfl rfl ?_
              refine aw_iconst (v := nI 4) (pcn := 137) dX7_move_136 rfl (by decide) ?_
              refine aw_iaddN (pcn := 138) dX7_move_137 rfl ?_
              refine aw_iload (pcn := 140) dX7_move_138 rfl rfl ?_
              refine aw_iaddN (pcn := 141) dX7_move_140 rfl ?_
              refine aw_dup2 (pcn := 142) dX7_move_141 rfl rfl rfl ?_
              refine aw_ialdM (j := 19) (pcn := 143) hW dX7_move_142 rfl (show _ < 2240 by omega) ?_
              rw [up_i _ _ _ (show 35 * S + 4 + P ≠ 35 * S + 34 by omega), up_i _ _ _ (show 35 * S + 4 + P ≠ 35 * S + 33 by omega), up_i _ _ _ (show 35 * S + 4 + P ≠ 35 * S + 32 by omega)]
              refine aw_alo 0 (pcn := 144) rfl dX7_move_143 rfl rfl (rf_some _) ?_
              refine aw_getf (pcn := 147) fl_X7_52 dX7_move_144 rfl hW.mo rfl ?_
              refine aw_ilo 3 (pcn := 148) rfl dX7_move_147 rfl rfl ?_
              refine aw_bipush (v := nI 31) (pcn := 150) dX7_move_148 rfl (by decide) ?_
              refine aw_iaddN (pcn := 151) dX7_move_150 rfl ?_
              refine aw_ialdM (j := 19) (pcn := 152) hW dX7_move_151 rfl (show _ < 2240 by omega) ?_
              rw [up_i _ _ _ (show 35 * S + 31 ≠ 35 * S + 34 by omega), up_i _ _ _ (show 35 * S + 31 ≠ 35 * S + 33 by omega), up_i _ _ _ (show 35 * S + 31 ≠ 35 * S + 32 by omega)]
              refine aw_iadd (pcn := 153) dX7_move_152 rfl ?_
              refine aw_iastM (j := 19) (pcn := 154) hW dX7_move_153 rfl (show _ < 2240 by omega) (fun h hW => ?_)
              refine aw_alo 0 (pcn := 155) rfl dX7_move_154 rfl rfl (rf_some _) ?_
              refine aw_getf (pcn := 158) fl_X7_52 dX7_move_155 rfl hW.mo rfl ?_
              refine aw_ilo 3 (pcn := 159) rfl dX7_move_158 rfl rfl ?_
              refine aw_bipush (v := nI 31) (pcn := 161) dX7_move_159 rfl (by decide) ?_
              refine aw_iaddN (pcn := 162) dX7_move_161 rfl ?_
              refine aw_iconst (v := nI 0) (pcn := 163) dX7_move_162 rfl (by decide) ?_
              refine aw_iastM (j := 19) (pcn := 164) hW dX7_move_163 rfl (show _ < 2240 by omega) (fun h hW => ?_)
              refine aw_alo 0 (pcn := 165) rfl dX7_move_164 rfl rfl (rf_some _) ?_
              refine aw_getf (pcn := 168) fl_X7_52 dX7_move_165 rfl hW.mo rfl ?_
              refine aw_ilo 3 (pcn := 169) rfl dX7_move_168 rfl rfl ?_
              refine aw_bipush (v := nI 33) (pcn := 171) dX7_move_169 rfl (by decide) ?_
              refine aw_iaddN (pcn := 172) dX7_move_171 rfl ?_
              refine aw_iconst (v := -1) (pcn := 173) dX7_move_172 rfl (by decide) ?_
              refine aw_iastM (j := 19) (pcn := 174) hW dX7_move_173 rfl (show _ < 2240 by omega) (fun h hW => ?_)
              refine aw_alo 0 (pcn := 175) rfl dX7_move_174 rfl rfl (rf_some _) ?_
              refine aw_getf (pcn := 178) fl_X7_52 dX7_move_175 rfl hW.mo rfl ?_
              refine aw_ilo 3 (pcn := 179) rfl dX7_move_178 rfl rfl ?_
              refine aw_bipush (v := nI 34) (pcn := 181) dX7_move_179 rfl (by decide) ?_
              refine aw_iaddN (pcn := 182) dX7_move_181 rfl ?_
              refine aw_iconst (v := -1) (pcn := 183) dX7_move_182 rfl (by decide) ?_
              refine aw_iastM (j := 19) (pcn := 184) hW dX7_move_183 rfl (show _ < 2240 by omega) (fun h hW => ?_)
              refine aw_alo 0 (pcn := 185) rfl dX7_move_184 rfl rfl (rf_some _) ?_
              refine aw_getf (pcn := 188) fl_X7_52 dX7_move_185 rfl hW.mo rfl ?_
              refine aw_ilo 3 (pcn := 189) rfl dX7_move_188 rfl rfl ?_
              refine aw_bipush (v := nI 32) (pcn := 191) dX7_move_189 rfl (by decide) ?_
              refine aw_iaddN (pcn := 192) dX7_move_191 rfl ?_
              refine aw_ialdM (j := 19) (pcn := 193) hW dX7_move_192 rfl (show _ < 2240 by omega) ?_
              first | (rw [up_i _ _ _ (show 35 * S + 32 ≠ 35 * S + 34 by omega), up_i _ _ _ (show 35 * S + 32 ≠ 35 * S + 33 by omega), up_i _ _ _ (show 35 * S + 32 ≠ 35 * S + 31 by omega), up_i _ _ _ (show 35 * S + 32 ≠ 35 * S + 4 + P by omega), up_i _ _ _ (show 35 * S + 32 ≠ 35 * S + 34 by omega), up_i _ _ _ (show 35 * S + 32 ≠ 35 * S + 33 by omega), up_s]) | (rw [up_i _ _ _ (show 35 * S + 32 ≠ 35 * S + 34 by omega), up_i _ _ _ (show 35 * S + 32 ≠ 35 * S + 33 by omega), up_s])
              exact aw_iret dX7_move_193 rfl ⟨_, rfl, ret2 (by rw [moveT_eq hS hc8 hc0 (by assumption), if_neg (by simp only [q2, Bool.false_eq_true, Bool.true_eq_false, reduceCtorEq, if_true, if_false, or_false, false_or, or_true, true_or, and_true, true_and, and_false, false_and, not_true_eq_false, not_false_eq_true, or_self, ← Int32.not_le, frT, isCT, isST, isPT, isZT, shiT]), if_neg (by simp only [q3, Bool.false_eq_true, Bool.true_eq_false, reduceCtorEq, if_true, if_false, or_false, false_or, or_true, true_or, and_true, true_and, and_false, false_and, not_true_eq_false, not_false_eq_true, or_self, ← Int32.not_le, frT, isCT, isST, isPT, isZT, shiT]), if_neg (by simp only [q4, q5, Bool.false_eq_true, Bool.true_eq_false, reduceCtorEq, if_true, if_false, or_false, false_or, or_true, true_or, and_true, true_and, and_false, false_and, not_true_eq_false, not_false_eq_true, or_self, ← Int32.not_le, frT, isCT, isST, isPT, isZT, shiT])]; unfold movT mov0; rw [hP1, ix_nI (by omega)]; first | (rw [if_pos q6]; done) | (rw [if_pos q6]; rfl) | (rw [if_neg q6]; done) | (rw [if_neg q6]; rfl)) hW⟩
          · refine aw_bipush (v := -4) (pcn := 65) dX7_move_63 rfl (by decide) ?_
            exact aw_iret dX7_move_65 rfl ⟨_, rfl, ret2 (by first | (simp only [moveT, q1, q2, q3, q4, q5, Bool.false_eq_true, Bool.true_eq_false, reduceCtorEq, if_true, if_false, or_false, false_or, or_true, true_or, and_true, true_and, and_false, false_and, not_true_eq_false, not_false_eq_true, or_self, ← Int32.not_le, frT, isCT, isST, isPT, isZT, shiT]; done) | (rw [moveT_eq hS hc8 hc0 (by assumption)]; simp only [q1, q2, q3, q4, q5, Bool.false_eq_true, Bool.true_eq_false, reduceCtorEq, if_true, if_false, or_false, false_or, or_true, true_or, and_true, true_and, and_false, false_and, not_true_eq_false, not_false_eq_true, or_self, ← Int32.not_le, frT, isCT, isST, isPT, isZT, shiT]; done) | (rw [moveT_eq hS hc8 hc0 (by assumption)]; simp only [q1, q2, q3, q4, q5, Bool.false_eq_true, Bool.true_eq_false, reduceCtorEq, if_true, if_false, or_false, false_or, or_true, true_or, and_true, true_and, and_false, false_and, not_true_eq_false, not_false_eq_true, or_self, ← Int32.not_le, frT, isCT, isST, isPT, isZT, shiT]; rfl) | (rw [moveT_eq hS hc8 hc0 (by assumption)]; rfl)) (hW)⟩
      · refine aw_bipush (v := -3) (pcn := 32) dX7_move_30 rfl (by decide) ?_
        exact aw_iret dX7_move_32 rfl ⟨_, rfl, ret2 (by first | (simp only [moveT, q1, q2, q3, Bool.false_eq_true, Bool.true_eq_false, reduceCtorEq, if_true, if_false, or_false, false_or, or_true, true_or, and_true, true_and, and_false, false_and, not_true_eq_false, not_false_eq_true, or_self, ← Int32.not_le, frT, isCT, isST, isPT, isZT, shiT]; done) | (rw [moveT_eq hS hc8 hc0 (by assumption)]; simp only [q1, q2, q3, Bool.false_eq_true, Bool.true_eq_false, reduceCtorEq, if_true, if_false, or_false, false_or, or_true, true_or, and_true, true_and, and_false, false_and, not_true_eq_false, not_false_eq_true, or_self, ← Int32.not_le, frT, isCT, isST, isPT, isZT, shiT]; done) | (rw [moveT_eq hS hc8 hc0 (by assumption)]; simp only [q1, q2, q3, Bool.false_eq_true, Bool.true_eq_false, reduceCtorEq, if_true, if_false, or_false, false_or, or_true, true_or, and_true, true_and, and_false, false_and, not_true_eq_false, not_false_eq_true, or_self, ← Int32.not_le, frT, isCT, isST, isPT, isZT, shiT]; rfl) | (rw [moveT_eq hS hc8 hc0 (by assumption)]; rfl)) (hW)⟩
    · refine aw_bipush (v := -2) (pcn := 20) dX7_move_18 rfl (by decide) ?_
      exact aw_iret dX7_move_20 rfl ⟨_, rfl, ret2 (by first | (simp only [moveT, q1, q2, Bool.false_eq_true, Bool.true_eq_false, reduceCtorEq, if_true, if_false, or_false, false_or, or_true, true_or, and_true, true_and, and_false, false_and, not_true_eq_false, not_false_eq_true, or_self, ← Int32.not_le, frT, isCT, isST, isPT, isZT, shiT]; done) | (rw [moveT_eq hS hc8 hc0 (by assumption)]; simp only [q1, q2, Bool.false_eq_true, Bool.true_eq_false, reduceCtorEq, if_true, if_false, or_false, false_or, or_true, true_or, and_true, true_and, and_false, false_and, not_true_eq_false, not_false_eq_true, or_self, ← Int32.not_le, frT, isCT, isST, isPT, isZT, shiT]; done) | (rw [moveT_eq hS hc8 hc0 (by assumption)]; simp only [q1, q2, Bool.false_eq_true, Bool.true_eq_false, reduceCtorEq, if_true, if_false, or_false, false_or, or_true, true_or, and_true, true_and, and_false, false_and, not_true_eq_false, not_false_eq_true, or_self, ← Int32.not_le, frT, isCT, isST, isPT, isZT, shiT]; rfl) | (rw [moveT_eq hS hc8 hc0 (by assumption)]; rfl)) (hW)⟩
  · refine aw_iconst (v := -1) (pcn := 9) dX7_move_8 rfl (by decide) ?_
    exact aw_iret dX7_move_9 rfl ⟨_, rfl, ret2 (by first | (simp only [moveT, q1, Bool.false_eq_true, Bool.true_eq_false, reduceCtorEq, if_true, if_false, or_false, false_or, or_true, true_or, and_true, true_and, and_false, false_and, not_true_eq_false, not_false_eq_true, or_self, ← Int32.not_le, frT, isCT, isST, isPT, isZT, shiT]; done) | (rw [moveT_eq hS hc8 hc0 (by assumption)]; simp only [q1, Bool.false_eq_true, Bool.true_eq_false, reduceCtorEq, if_true, if_false, or_false, false_or, or_true, true_or, and_true, true_and, and_false, false_and, not_true_eq_false, not_false_eq_true, or_self, ← Int32.not_le, frT, isCT, isST, isPT, isZT, shiT]; done) | (rw [moveT_eq hS hc8 hc0 (by assumption)]; simp only [q1, Bool.false_eq_true, Bool.true_eq_false, reduceCtorEq, if_true, if_false, or_false, false_or, or_true, true_or, and_true, true_and, and_false, false_and, not_true_eq_false, not_false_eq_true, or_self, ← Int32.not_le, frT, isCT, isST, isPT, isZT, shiT]; rfl) | (rw [moveT_eq hS hc8 hc0 (by assumption)]; rfl)) (hW)⟩

set_option maxHeartbeats 8000000 in
set_option maxRecDepth 20000 in
theorem r_a_out {X : XG} {l : Launch} {Γ : NM} {ow : Nat → Nat × Nat} {h : Hp} {T Tr : TB} {nh : Nat} (hW : WD Γ ow h T Tr nh) {i C n Z hN : Nat} (hI : Iv i Tr C n Z hN) (s f v : Int32) : AM X l yX7_out cX7_out 5 (some .int) 4 0 0 [.ref (Γ 14 0), .int s, .int f, .int v] h (qi fun r h' => r = (outsT Tr s f v).1 ∧ WD Γ ow h' T (outsT Tr s f v).2 nh) := by
  refine AM.of (by decide +kernel) (by simp [Value.category]) (Nat.le_of_ble_eq_true rfl) ?_
  show AW X l cX7_out RX7 "out" (some .int) 5 4 none _ 0 0 0 [some (.ref (Γ 14 0)), some (.int s), some (.int f), some (.int v), none] [] h
  have h64 := hI.n64
  have h8 := hI.C8
  have h16 := hI.Z16
  have h4 := hI.h4
  refine aw_alo 0 (pcn := 1) rfl dX7_out_0 rfl rfl (rf_some _) ?_
  refine aw_ilo 1 (pcn := 2) rfl dX7_out_1 rfl rfl ?_
  refine aw_ilo 2 (pcn := 3) rfl dX7_out_2 rfl rfl ?_
  refine aw_Vi (pcn := 6) (r_isOf hW hI.oST' _) mf_X7_isOf mv_X7_isOf hW.mo rfl ml_X7_155 rfl (by decide) (by decide) (by decide) (by exact Nat.le_of_ble_eq_true rfl) rfl dX7_out_3 rfl (fun r h2 hq => ?_)
  obtain ⟨rfl, hq⟩ := hq
  obtain rfl := hq.symm
  refine aw_if_neB (t := 11) (pcn := 9) dX7_out_6 rfl (by decide) (fun q1 => ?_) (fun q1 => ?_)
  · obtain ⟨S, c, F, rfl, rfl, hSn, hcC, hF, hc0, hm1⟩ := hI.oOf q1
    have hS : S < 64 := by omega
    have hc8 : c < 8 := by omega
    refine aw_alo 0 (pcn := 12) rfl dX7_out_11 rfl rfl (rf_some _) ?_
    refine aw_ilo 1 (pcn := 13) rfl dX7_out_12 rfl rfl ?_
    refine aw_Vi (pcn := 16) (r_isFixed hW (S := S) (c := c) hS hc8 hc0) mf_X7_isFixed mv_X7_isFixed hW.mo rfl ml_X7_158 rfl (by decide) (by decide) (by decide) (by exact Nat.le_of_ble_eq_true rfl) rfl dX7_out_13 rfl (fun r h2 hq => ?_)
    obtain ⟨rfl, hq⟩ := hq
    obtain rfl := hq.symm
    refine aw_if_eqB (t := 22) (pcn := 19) dX7_out_16 rfl (by decide) (fun q2 => ?_) (fun q2 => ?_)
    · refine aw_ilo 3 (pcn := 23) rfl dX7_out_22 rfl rfl ?_
      refine aw_iconst (v := nI 0) (pcn := 24) dX7_out_23 rfl (by decide) ?_
      refine aw_ldc (pcn := 26) ct_X7_161 dX7_out_24 rfl ?_
      rw [show (60000 : Int32) = nI 60000 by decide]
      refine aw_Si (pcn := 29) (r_isIn _ _ _) mf_X7_isIn mv_X7_isIn ml_X7_64 rfl (by decide) (by decide) (by decide) (by exact Nat.le_of_ble_eq_true rfl) rfl dX7_out_26 rfl (fun r h2 hq => ?_)
      obtain ⟨rfl, hq⟩ := hq
      obtain rfl := hq.symm
      refine aw_if_neB (t := 35) (pcn := 32) dX7_out_29 rfl (by decide) (fun q3 => ?_) (fun q3 => ?_)
      · refine aw_alo 0 (pcn := 36) rfl dX7_out_35 rfl rfl (rf_some _) ?_
        refine aw_getf (pcn := 39) fl_X7_52 dX7_out_36 rfl hW.mo rfl ?_
        refine aw_bipush (v := nI 35) (pcn := 41) dX7_out_39 rfl (by decide) ?_
        refine aw_ilo 1 (pcn := 42) rfl dX7_out_41 rfl rfl ?_
        refine aw_imulN (pcn := 43) dX7_out_42 rfl ?_
        refine aw_iconst (v := nI 4) (pcn := 44) dX7_out_43 rfl (by decide) ?_
        refine aw_iaddN (pcn := 45) dX7_out_44 rfl ?_
        refine aw_ilo 2 (pcn := 46) rfl dX7_out_45 rfl rfl ?_
        refine aw_iaddN (pcn := 47) dX7_out_46 rfl ?_
        refine aw_ialdM (j := 19) (pcn := 48) hW dX7_out_47 rfl (show _ < 2240 by omega) ?_
        refine aw_ilo 3 (pcn := 49) rfl dX7_out_48 rfl rfl ?_
        refine aw_icmp_ge (t := 55) (pcn := 52) dX7_out_49 rfl (by decide) (fun q4 => ?_) (fun q4 => ?_)
        · refine aw_alo 0 (pcn := 56) rfl dX7_out_55 rfl rfl (rf_some _) ?_
          refine aw_getf (pcn := 59) fl_X7_52 dX7_out_56 rfl hW.mo rfl ?_
          refine aw_bipush (v := nI 35) (pcn := 61) dX7_out_59 rfl (by decide) ?_
          refine aw_ilo 1 (pcn := 62) rfl dX7_out_61 rfl rfl ?_
          refine aw_imulN (pcn := 63) dX7_out_62 rfl ?_
          refine aw_bipush (v := nI 10) (pcn := 65) dX7_out_63 rfl (by decide) ?_
          refine aw_iaddN (pcn := 66) dX7_out_65 rfl ?_
          refine aw_ilo 2 (pcn := 67) rfl dX7_out_66 rfl rfl ?_
          refine aw_iaddN (pcn := 68) dX7_out_67 rfl ?_
          refine aw_ialdM (j := 19) (pcn := 69) hW dX7_out_68 rfl (show _ < 2240 by omega) ?_
          refine aw_istore (pcn := 71) dX7_out_69 rfl (by decide) ?_
          dsimp only [List.set_cons_zero, List.set_cons_succ]
          refine aw_alo 0 (pcn := 72) rfl dX7_out_71 rfl rfl (rf_some _) ?_
          refine aw_getf (pcn := 75) fl_X7_52 dX7_out_72 rfl hW.mo rfl ?_
          refine aw_bipush (v := nI 35) (pcn := 77) dX7_out_75 rfl (by decide) ?_
          refine aw_ilo 1 (pcn := 78) rfl dX7_out_77 rfl rfl ?_
          refine aw_imulN (pcn := 79) dX7_out_78 rfl ?_
          refine aw_bipush (v := nI 10) (pcn := 81) dX7_out_79 rfl (by decide) ?_
          refine aw_iaddN (pcn := 82) dX7_out_81 rfl ?_
          refine aw_ilo 2 (pcn := 83) rfl dX7_out_82 rfl rfl ?_
          refine aw_iaddN (pcn := 84) dX7_out_83 rfl ?_
          refine aw_ilo 3 (pcn := 85) rfl dX7_out_84 rfl rfl ?_
          refine aw_iastM (j := 19) (pcn := 86) hW dX7_out_85 rfl (show _ < 2240 by omega) (fun h hW => ?_)
          refine aw_iload (pcn := 88) dX7_out_86 rfl rfl ?_
          exact aw_iret dX7_out_88 rfl ⟨_, rfl, ret2 (by first | (simp only [outsT, q1, q2, q3, q4, Bool.false_eq_true, Bool.true_eq_false, reduceCtorEq, if_true, if_false, or_false, false_or, or_true, true_or, and_true, true_and, and_false, false_and, not_true_eq_false, not_false_eq_true, or_self, ← Int32.not_le, frT, isCT, isST, isPT, isZT, shiT]; done) | (rw [outsT_eq hS hc8 hc0 hF (by assumption)]; simp only [q1, q2, q3, q4, Bool.false_eq_true, Bool.true_eq_false, reduceCtorEq, if_true, if_false, or_false, false_or, or_true, true_or, and_true, true_and, and_false, false_and, not_true_eq_false, not_false_eq_true, or_self, ← Int32.not_le, frT, isCT, isST, isPT, isZT, shiT]; done) | (rw [outsT_eq hS hc8 hc0 hF (by assumption)]; simp only [q1, q2, q3, q4, Bool.false_eq_true, Bool.true_eq_false, reduceCtorEq, if_true, if_false, or_false, false_or, or_true, true_or, and_true, true_and, and_false, false_and, not_true_eq_false, not_false_eq_true, or_self, ← Int32.not_le, frT, isCT, isST, isPT, isZT, shiT]; rfl) | (rw [outsT_eq hS hc8 hc0 hF (by assumption)]; rfl)) (hW)⟩
        · refine aw_bipush (v := -4) (pcn := 54) dX7_out_52 rfl (by decide) ?_
          exact aw_iret dX7_out_54 rfl ⟨_, rfl, ret2 (by first | (simp only [outsT, q1, q2, q3, q4, Bool.false_eq_true, Bool.true_eq_false, reduceCtorEq, if_true, if_false, or_false, false_or, or_true, true_or, and_true, true_and, and_false, false_and, not_true_eq_false, not_false_eq_true, or_self, ← Int32.not_le, frT, isCT, isST, isPT, isZT, shiT]; done) | (rw [outsT_eq hS hc8 hc0 hF (by assumption)]; simp only [q1, q2, q3, q4, Bool.false_eq_true, Bool.true_eq_false, reduceCtorEq, if_true, if_false, or_false, false_or, or_true, true_or, and_true, true_and, and_false, false_and, not_true_eq_false, not_false_eq_true, or_self, ← Int32.not_le, frT, isCT, isST, isPT, isZT, shiT]; done) | (rw [outsT_eq hS hc8 hc0 hF (by assumption)]; simp only [q1, q2, q3, q4, Bool.false_eq_true, Bool.true_eq_false, reduceCtorEq, if_true, if_false, or_false, false_or, or_true, true_or, and_true, true_and, and_false, false_and, not_true_eq_false, not_false_eq_true, or_self, ← Int32.not_le, frT, isCT, isST, isPT, isZT, shiT]; rfl) | (rw [outsT_eq hS hc8 hc0 hF (by assumption)]; rfl)) (hW)⟩
      · refine aw_bipush (v := -3) (pcn := 34) dX7_out_32 rfl (by decide) ?_
        exact aw_iret dX7_out_34 rfl ⟨_, rfl, ret2 (by first | (simp only [outsT, q1, q2, q3, Bool.false_eq_true, Bool.true_eq_false, reduceCtorEq, if_true, if_false, or_false, false_or, or_true, true_or, and_true, true_and, and_false, false_and, not_true_eq_false, not_false_eq_true, or_self, ← Int32.not_le, frT, isCT, isST, isPT, isZT, shiT]; done) | (rw [outsT_eq hS hc8 hc0 hF (by assumption)]; simp only [q1, q2, q3, Bool.false_eq_true, Bool.true_eq_false, reduceCtorEq, if_true, if_false, or_false, false_or, or_true, true_or, and_true, true_and, and_false, false_and, not_true_eq_false, not_false_eq_true, or_self, ← Int32.not_le, frT, isCT, isST, isPT, isZT, shiT]; done) | (rw [outsT_eq hS hc8 hc0 hF (by assumption)]; simp only [q1, q2, q3, Bool.false_eq_true, Bool.true_eq_false, reduceCtorEq, if_true, if_false, or_false, false_or, or_true, true_or, and_true, true_and, and_false, false_and, not_true_eq_false, not_false_eq_true, or_self, ← Int32.not_le, frT, isCT, isST, isPT, isZT, shiT]; rfl) | (rw [outsT_eq hS hc8 hc0 hF (by assumption)]; rfl)) (hW)⟩
    · refine aw_bipush (v := -2) (pcn := 21) dX7_out_19 rfl (by decide) ?_
      exact aw_iret dX7_out_21 rfl ⟨_, rfl, ret2 (by first | (simp only [outsT, q1, q2, Bool.false_eq_true, Bool.true_eq_false, reduceCtorEq, if_true, if_false, or_false, false_or, or_true, true_or, and_true, true_and, and_false, false_and, not_true_eq_false, not_false_eq_true, or_self, ← Int32.not_le, frT, isCT, isST, isPT, isZT, shiT]; done) | (rw [outsT_eq hS hc8 hc0 hF (by assumption)]; simp only [q1, q2, Bool.false_eq_true, Bool.true_eq_false, reduceCtorEq, if_true, if_false, or_false, false_or, or_true, true_or, and_true, true_and, and_false, false_and, not_true_eq_false, not_false_eq_true, or_self, ← Int32.not_le, frT, isCT, isST, isPT, isZT, shiT]; done) | (rw [outsT_eq hS hc8 hc0 hF (by assumption)]; simp only [q1, q2, Bool.false_eq_true, Bool.true_eq_false, reduceCtorEq, if_true, if_false, or_false, false_or, or_true, true_or, and_true, true_and, and_false, false_and, not_true_eq_false, not_false_eq_true, or_self, ← Int32.not_le, frT, isCT, isST, isPT, isZT, shiT]; rfl) | (rw [outsT_eq hS hc8 hc0 hF (by assumption)]; rfl)) (hW)⟩
  · refine aw_iconst (v := -1) (pcn := 10) dX7_out_9 rfl (by decide) ?_
    exact aw_iret dX7_out_10 rfl ⟨_, rfl, ret2 (by first | (simp only [outsT, q1, Bool.false_eq_true, Bool.true_eq_false, reduceCtorEq, if_true, if_false, or_false, false_or, or_true, true_or, and_true, true_and, and_false, false_and, not_true_eq_false, not_false_eq_true, or_self, ← Int32.not_le, frT, isCT, isST, isPT, isZT, shiT]; done) | (rw [outsT_eq hS hc8 hc0 hF (by assumption)]; simp only [q1, Bool.false_eq_true, Bool.true_eq_false, reduceCtorEq, if_true, if_false, or_false, false_or, or_true, true_or, and_true, true_and, and_false, false_and, not_true_eq_false, not_false_eq_true, or_self, ← Int32.not_le, frT, isCT, isST, isPT, isZT, shiT]; done) | (rw [outsT_eq hS hc8 hc0 hF (by assumption)]; simp only [q1, Bool.false_eq_true, Bool.true_eq_false, reduceCtorEq, if_true, if_false, or_false, false_or, or_true, true_or, and_true, true_and, and_false, false_and, not_true_eq_false, not_false_eq_true, or_self, ← Int32.not_le, frT, isCT, isST, isPT, isZT, shiT]; rfl) | (rw [outsT_eq hS hc8 hc0 hF (by assumption)]; rfl)) (hW)⟩

set_option maxHeartbeats 8000000 in
set_option maxRecDepth 20000 in
theorem r_a_sign {X : XG} {l : Launch} {Γ : NM} {ow : Nat → Nat × Nat} {h : Hp} {T Tr : TB} {nh : Nat} (hW : WD Γ ow h T Tr nh) {i C n Z hN : Nat} (hI : Iv i Tr C n Z hN) (s f : Int32) : AM X l yX7_sign cX7_sign 4 (some .int) 4 0 0 [.ref (Γ 14 0), .int s, .int f] h (qi fun r h' => r = (signT Tr n s f).1 ∧ WD Γ ow h' T (signT Tr n s f).2 nh) := by
  refine AM.of (by decide +kernel) (by simp [Value.category]) (Nat.le_of_ble_eq_true rfl) ?_
  show AW X l cX7_sign RX7 "sign" (some .int) 4 4 none _ 0 0 0 [some (.ref (Γ 14 0)), some (.int s), some (.int f), none] [] h
  have h64 := hI.n64
  have h8 := hI.C8
  have h16 := hI.Z16
  have h4 := hI.h4
  refine aw_alo 0 (pcn := 1) rfl dX7_sign_0 rfl rfl (rf_some _) ?_
  refine aw_ilo 1 (pcn := 2) rfl dX7_sign_1 rfl rfl ?_
  refine aw_ilo 2 (pcn := 3) rfl dX7_sign_2 rfl rfl ?_
  refine aw_Vi (pcn := 6) (r_isOf hW hI.oST' _) mf_X7_isOf mv_X7_isOf hW.mo rfl ml_X7_155 rfl (by decide) (by decide) (by decide) (by exact Nat.le_of_ble_eq_true rfl) rfl dX7_sign_3 rfl (fun r h2 hq => ?_)
  obtain ⟨rfl, hq⟩ := hq
  obtain rfl := hq.symm
  refine aw_if_neB (t := 11) (pcn := 9) dX7_sign_6 rfl (by decide) (fun q1 => ?_) (fun q1 => ?_)
  · obtain ⟨S, c, F, rfl, rfl, hSn, hcC, hF, hc0, hm1⟩ := hI.oOf q1
    have hS : S < 64 := by omega
    have hc8 : c < 8 := by omega
    refine aw_alo 0 (pcn := 12) rfl dX7_sign_11 rfl rfl (rf_some _) ?_
    refine aw_getf (pcn := 15) fl_X7_25 dX7_sign_12 rfl hW.mo rfl ?_
    refine aw_alo 0 (pcn := 16) rfl dX7_sign_15 rfl rfl (rf_some _) ?_
    refine aw_ilo 1 (pcn := 17) rfl dX7_sign_16 rfl rfl ?_
    refine aw_Vi (pcn := 20) (r_channelOf hW (S := S) hS) mf_X7_channelOf mv_X7_channelOf hW.mo rfl ml_X7_86 rfl (by decide) (by decide) (by decide) (by exact Nat.le_of_ble_eq_true rfl) rfl dX7_sign_17 rfl (fun r h2 hq => ?_)
    obtain ⟨rfl, hq⟩ := hq
    obtain rfl := hq.symm
    rw [hc0]
    refine aw_ialdM (j := 9) (pcn := 21) hW dX7_sign_20 rfl (show _ < 8 by omega) ?_
    refine aw_iconst (v := nI 3) (pcn := 22) dX7_sign_21 rfl (by decide) ?_
    refine aw_icmp_ne (t := 28) (pcn := 25) dX7_sign_22 rfl (by decide) (fun q2 => ?_) (fun q2 => ?_)
    · refine aw_bipush (v := nI 35) (pcn := 30) dX7_sign_28 rfl (by decide) ?_
      refine aw_ilo 1 (pcn := 31) rfl dX7_sign_30 rfl rfl ?_
      refine aw_imulN (pcn := 32) dX7_sign_31 rfl ?_
      refine aw_iconst (v := nI 2) (pcn := 33) dX7_sign_32 rfl (by decide) ?_
      refine aw_iaddN (pcn := 34) dX7_sign_33 rfl ?_
      refine aw_ist 3 (pcn := 35) rfl dX7_sign_34 rfl (by decide) ?_
      dsimp only [List.set_cons_zero, List.set_cons_succ]
      refine aw_alo 0 (pcn := 36) rfl dX7_sign_35 rfl rfl (rf_some _) ?_
      refine aw_getf (pcn := 39) fl_X7_52 dX7_sign_36 rfl hW.mo rfl ?_
      refine aw_ilo 3 (pcn := 40) rfl dX7_sign_39 rfl rfl ?_
      refine aw_ialdM (j := 19) (pcn := 41) hW dX7_sign_40 rfl (show _ < 2240 by omega) ?_
      refine aw_ilo 2 (pcn := 42) rfl dX7_sign_41 rfl rfl ?_
      refine aw_Si (pcn := 45) (r_has _ _) mf_X7_has mv_X7_has ml_X7_79 rfl (by decide) (by decide) (by decide) (by exact Nat.le_of_ble_eq_true rfl) rfl dX7_sign_42 rfl (fun r h2 hq => ?_)
      obtain ⟨rfl, hq⟩ := hq
      obtain rfl := hq.symm
      refine aw_if_eqB (t := 51) (pcn := 48) dX7_sign_45 rfl (by decide) (fun q3 => ?_) (fun q3 => ?_)
      · refine aw_alo 0 (pcn := 52) rfl dX7_sign_51 rfl rfl (rf_some _) ?_
        refine aw_getf (pcn := 55) fl_X7_52 dX7_sign_52 rfl hW.mo rfl ?_
        refine aw_ilo 3 (pcn := 56) rfl dX7_sign_55 rfl rfl ?_
        refine aw_dup2 (pcn := 57) dX7_sign_56 rfl rfl rfl ?_
        refine aw_ialdM (j := 19) (pcn := 58) hW dX7_sign_57 rfl (show _ < 2240 by omega) ?_
        refine aw_iconst (v := nI 1) (pcn := 59) dX7_sign_58 rfl (by decide) ?_
        refine aw_ilo 2 (pcn := 60) rfl dX7_sign_59 rfl rfl ?_
        refine aw_ishl (pcn := 61) dX7_sign_60 rfl ?_
        refine aw_iadd (pcn := 62) dX7_sign_61 rfl ?_
        refine aw_iastM (j := 19) (pcn := 63) hW dX7_sign_62 rfl (show _ < 2240 by omega) (fun h hW => ?_)
        refine aw_alo 0 (pcn := 64) rfl dX7_sign_63 rfl rfl (rf_some _) ?_
        refine aw_getf (pcn := 67) fl_X7_52 dX7_sign_64 rfl hW.mo rfl ?_
        refine aw_ilo 3 (pcn := 68) rfl dX7_sign_67 rfl rfl ?_
        refine aw_ialdM (j := 19) (pcn := 69) hW dX7_sign_68 rfl (show _ < 2240 by omega) ?_
        rw [up_s]
        refine aw_Si (pcn := 72) (r_size _) mf_X7_size mv_X7_size ml_X7_143 rfl (by decide) (by decide) (by decide) (by exact Nat.le_of_ble_eq_true rfl) rfl dX7_sign_69 rfl (fun r h2 hq => ?_)
        obtain ⟨rfl, hq⟩ := hq
        obtain rfl := hq.symm
        exact aw_iret dX7_sign_72 rfl ⟨_, rfl, ret2 (by first | (simp only [signT, q1, q2, q3, Bool.false_eq_true, Bool.true_eq_false, reduceCtorEq, if_true, if_false, or_false, false_or, or_true, true_or, and_true, true_and, and_false, false_and, not_true_eq_false, not_false_eq_true, or_self, ← Int32.not_le, frT, isCT, isST, isPT, isZT, shiT]; done) | (rw [signT_eq hS hc8 hc0 hF (by assumption)]; simp only [q1, q2, q3, Bool.false_eq_true, Bool.true_eq_false, reduceCtorEq, if_true, if_false, or_false, false_or, or_true, true_or, and_true, true_and, and_false, false_and, not_true_eq_false, not_false_eq_true, or_self, ← Int32.not_le, frT, isCT, isST, isPT, isZT, shiT]; done) | (rw [signT_eq hS hc8 hc0 hF (by assumption)]; simp only [q1, q2, q3, Bool.false_eq_true, Bool.true_eq_false, reduceCtorEq, if_true, if_false, or_false, false_or, or_true, true_or, and_true, true_and, and_false, false_and, not_true_eq_false, not_false_eq_true, or_self, ← Int32.not_le, frT, isCT, isST, isPT, isZT, shiT]; rfl) | (rw [signT_eq hS hc8 hc0 hF (by assumption)]; rfl)) (hW.ghost (j := 25) (i := c) (v := nwT (sgn0 Tr S F) c n) (by omega))⟩
      · refine aw_bipush (v := -4) (pcn := 50) dX7_sign_48 rfl (by decide) ?_
        exact aw_iret dX7_sign_50 rfl ⟨_, rfl, ret2 (by first | (simp only [signT, q1, q2, q3, Bool.false_eq_true, Bool.true_eq_false, reduceCtorEq, if_true, if_false, or_false, false_or, or_true, true_or, and_true, true_and, and_false, false_and, not_true_eq_false, not_false_eq_true, or_self, ← Int32.not_le, frT, isCT, isST, isPT, isZT, shiT]; done) | (rw [signT_eq hS hc8 hc0 hF (by assumption)]; simp only [q1, q2, q3, Bool.false_eq_true, Bool.true_eq_false, reduceCtorEq, if_true, if_false, or_false, false_or, or_true, true_or, and_true, true_and, and_false, false_and, not_true_eq_false, not_false_eq_true, or_self, ← Int32.not_le, frT, isCT, isST, isPT, isZT, shiT]; done) | (rw [signT_eq hS hc8 hc0 hF (by assumption)]; simp only [q1, q2, q3, Bool.false_eq_true, Bool.true_eq_false, reduceCtorEq, if_true, if_false, or_false, false_or, or_true, true_or, and_true, true_and, and_false, false_and, not_true_eq_false, not_false_eq_true, or_self, ← Int32.not_le, frT, isCT, isST, isPT, isZT, shiT]; rfl) | (rw [signT_eq hS hc8 hc0 hF (by assumption)]; rfl)) (hW)⟩
    · refine aw_bipush (v := -2) (pcn := 27) dX7_sign_25 rfl (by decide) ?_
      exact aw_iret dX7_sign_27 rfl ⟨_, rfl, ret2 (by first | (simp only [signT, q1, q2, Bool.false_eq_true, Bool.true_eq_false, reduceCtorEq, if_true, if_false, or_false, false_or, or_true, true_or, and_true, true_and, and_false, false_and, not_true_eq_false, not_false_eq_true, or_self, ← Int32.not_le, frT, isCT, isST, isPT, isZT, shiT]; done) | (rw [signT_eq hS hc8 hc0 hF (by assumption)]; simp only [q1, q2, Bool.false_eq_true, Bool.true_eq_false, reduceCtorEq, if_true, if_false, or_false, false_or, or_true, true_or, and_true, true_and, and_false, false_and, not_true_eq_false, not_false_eq_true, or_self, ← Int32.not_le, frT, isCT, isST, isPT, isZT, shiT]; done) | (rw [signT_eq hS hc8 hc0 hF (by assumption)]; simp only [q1, q2, Bool.false_eq_true, Bool.true_eq_false, reduceCtorEq, if_true, if_false, or_false, false_or, or_true, true_or, and_true, true_and, and_false, false_and, not_true_eq_false, not_false_eq_true, or_self, ← Int32.not_le, frT, isCT, isST, isPT, isZT, shiT]; rfl) | (rw [signT_eq hS hc8 hc0 hF (by assumption)]; rfl)) (hW)⟩
  · refine aw_iconst (v := -1) (pcn := 10) dX7_sign_9 rfl (by decide) ?_
    exact aw_iret dX7_sign_10 rfl ⟨_, rfl, ret2 (by first | (simp only [signT, q1, Bool.false_eq_true, Bool.true_eq_false, reduceCtorEq, if_true, if_false, or_false, false_or, or_true, true_or, and_true, true_and, and_false, false_and, not_true_eq_false, not_false_eq_true, or_self, ← Int32.not_le, frT, isCT, isST, isPT, isZT, shiT]; done) | (rw [signT_eq hS hc8 hc0 hF (by assumption)]; simp only [q1, Bool.false_eq_true, Bool.true_eq_false, reduceCtorEq, if_true, if_false, or_false, false_or, or_true, true_or, and_true, true_and, and_false, false_and, not_true_eq_false, not_false_eq_true, or_self, ← Int32.not_le, frT, isCT, isST, isPT, isZT, shiT]; done) | (rw [signT_eq hS hc8 hc0 hF (by assumption)]; simp only [q1, Bool.false_eq_true, Bool.true_eq_false, reduceCtorEq, if_true, if_false, or_false, false_or, or_true, true_or, and_true, true_and, and_false, false_and, not_true_eq_false, not_false_eq_true, or_self, ← Int32.not_le, frT, isCT, isST, isPT, isZT, shiT]; rfl) | (rw [signT_eq hS hc8 hc0 hF (by assumption)]; rfl)) (hW)⟩

set_option maxHeartbeats 8000000 in
set_option maxRecDepth 20000 in
theorem r_a_show {X : XG} {l : Launch} {Γ : NM} {ow : Nat → Nat × Nat} {h : Hp} {T Tr : TB} {nh : Nat} (hW : WD Γ ow h T Tr nh) {i C n Z hN : Nat} (hI : Iv i Tr C n Z hN) (s f : Int32) : AM X l yX7_show cX7_show 4 (some .int) 4 0 0 [.ref (Γ 14 0), .int s, .int f] h (qi fun r h' => r = (showT Tr s f).1 ∧ WD Γ ow h' T (showT Tr s f).2 nh) := by
  refine AM.of (by decide +kernel) (by simp [Value.category]) (Nat.le_of_ble_eq_true rfl) ?_
  show AW X l cX7_show RX7 "show" (some .int) 4 4 none _ 0 0 0 [some (.ref (Γ 14 0)), some (.int s), some (.int f), none] [] h
  have h64 := hI.n64
  have h8 := hI.C8
  have h16 := hI.Z16
  have h4 := hI.h4
  refine aw_alo 0 (pcn := 1) rfl dX7_show_0 rfl rfl (rf_some _) ?_
  refine aw_ilo 1 (pcn := 2) rfl dX7_show_1 rfl rfl ?_
  refine aw_ilo 2 (pcn := 3) rfl dX7_show_2 rfl rfl ?_
  refine aw_Vi (pcn := 6) (r_isOf hW hI.oST' _) mf_X7_isOf mv_X7_isOf hW.mo rfl ml_X7_155 rfl (by decide) (by decide) (by decide) (by exact Nat.le_of_ble_eq_true rfl) rfl dX7_show_3 rfl (fun r h2 hq => ?_)
  obtain ⟨rfl, hq⟩ := hq
  obtain rfl := hq.symm
  refine aw_if_neB (t := 11) (pcn := 9) dX7_show_6 rfl (by decide) (fun q1 => ?_) (fun q1 => ?_)
  · obtain ⟨S, c, F, rfl, rfl, hSn, hcC, hF, hc0, hm1⟩ := hI.oOf q1
    have hS : S < 64 := by omega
    have hc8 : c < 8 := by omega
    have hbn := hI.byn hcC
    refine aw_alo 0 (pcn := 12) rfl dX7_show_11 rfl rfl (rf_some _) ?_
    refine aw_ilo 1 (pcn := 13) rfl dX7_show_12 rfl rfl ?_
    refine aw_Vi (pcn := 16) (r_channelOf hW (S := S) hS) mf_X7_channelOf mv_X7_channelOf hW.mo rfl ml_X7_86 rfl (by decide) (by decide) (by decide) (by exact Nat.le_of_ble_eq_true rfl) rfl dX7_show_13 rfl (fun r h2 hq => ?_)
    obtain ⟨rfl, hq⟩ := hq
    obtain rfl := hq.symm
    rw [hc0]
    refine aw_ist 3 (pcn := 17) rfl dX7_show_16 rfl (by decide) ?_
    dsimp only [List.set_cons_zero, List.set_cons_succ]
    refine aw_alo 0 (pcn := 18) rfl dX7_show_17 rfl rfl (rf_some _) ?_
    refine aw_getf (pcn := 21) fl_X7_25 dX7_show_18 rfl hW.mo rfl ?_
    refine aw_ilo 3 (pcn := 22) rfl dX7_show_21 rfl rfl ?_
    refine aw_ialdM (j := 9) (pcn := 23) hW dX7_show_22 rfl (show _ < 8 by omega) ?_
    refine aw_iconst (v := nI 3) (pcn := 24) dX7_show_23 rfl (by decide) ?_
    refine aw_icmp_ne (t := 30) (pcn := 27) dX7_show_24 rfl (by decide) (fun q2 => ?_) (fun q2 => ?_)
    · refine aw_alo 0 (pcn := 31) rfl dX7_show_30 rfl rfl (rf_some _) ?_
      refine aw_ilo 1 (pcn := 32) rfl dX7_show_31 rfl rfl ?_
      refine aw_Vi (pcn := 35) (r_counts hW (S := S) (c := c) hS hc8 hc0) mf_X7_counts mv_X7_counts hW.mo rfl ml_X7_100 rfl (by decide) (by decide) (by decide) (by exact Nat.le_of_ble_eq_true rfl) rfl dX7_show_32 rfl (fun r h2 hq => ?_)
      obtain ⟨rfl, hq⟩ := hq
      obtain rfl := hq.symm
      refine aw_if_eqB (t := 78) (pcn := 38) dX7_show_35 rfl (by decide) (fun q3 => ?_) (fun q3 => ?_)
      · refine aw_bipush (v := -4) (pcn := 80) dX7_show_78 rfl (by decide) ?_
        exact aw_iret dX7_show_80 rfl ⟨_, rfl, ret2 (by first | (simp only [showT, q1, q2, q3, Bool.false_eq_true, Bool.true_eq_false, reduceCtorEq, if_true, if_false, or_false, false_or, or_true, true_or, and_true, true_and, and_false, false_and, not_true_eq_false, not_false_eq_true, or_self, ← Int32.not_le, frT, isCT, isST, isPT, isZT, shiT]; done) | (rw [showT_eq hS hc8 hc0 hF (by assumption)]; simp only [q1, q2, q3, Bool.false_eq_true, Bool.true_eq_false, reduceCtorEq, if_true, if_false, or_false, false_or, or_true, true_or, and_true, true_and, and_false, false_and, not_true_eq_false, not_false_eq_true, or_self, ← Int32.not_le, frT, isCT, isST, isPT, isZT, shiT]; done) | (rw [showT_eq hS hc8 hc0 hF (by assumption)]; simp only [q1, q2, q3, Bool.false_eq_true, Bool.true_eq_false, reduceCtorEq, if_true, if_false, or_false, false_or, or_true, true_or, and_true, true_and, and_false, false_and, not_true_eq_false, not_false_eq_true, or_self, ← Int32.not_le, frT, isCT, isST, isPT, isZT, shiT]; rfl) | (rw [showT_eq hS hc8 hc0 hF (by assumption)]; rfl)) (hW)⟩
      · refine aw_alo 0 (pcn := 39) rfl dX7_show_38 rfl rfl (rf_some _) ?_
        refine aw_getf (pcn := 42) fl_X7_25 dX7_show_39 rfl hW.mo rfl ?_
        refine aw_ilo 3 (pcn := 43) rfl dX7_show_42 rfl rfl ?_
        refine aw_ialdM (j := 9) (pcn := 44) hW dX7_show_43 rfl (show _ < 8 by omega) ?_
        refine aw_iconst (v := nI 2) (pcn := 45) dX7_show_44 rfl (by decide) ?_
        refine aw_icmp_ne (t := 81) (pcn := 48) dX7_show_45 rfl (by decide) (fun q4 => ?_) (fun q4 => ?_)
        · refine aw_alo 0 (pcn := 82) rfl dX7_show_81 rfl rfl (rf_some _) ?_
          refine aw_ilo 1 (pcn := 83) rfl dX7_show_82 rfl rfl ?_
          refine aw_Vv (pcn := 86) (r_shows hW (S := S) (c := c) (b := ix (Tr 10 c)) hS hc8 hc0 (fun q => ⟨hI.by_ hcC q, by omega⟩)) mf_X7_shows mv_X7_shows hW.mo rfl ml_X7_120 rfl (by decide) (by decide) (by decide) (by exact Nat.le_of_ble_eq_true rfl) rfl dX7_show_83 rfl (fun h hW => ?_)
          refine aw_alo 0 (pcn := 87) rfl dX7_show_86 rfl rfl (rf_some _) ?_
          refine aw_getf (pcn := 90) fl_X7_31 dX7_show_87 rfl hW.mo rfl ?_
          refine aw_ilo 3 (pcn := 91) rfl dX7_show_90 rfl rfl ?_
          refine aw_ialdM (j := 11) (pcn := 92) hW dX7_show_91 rfl (show _ < 8 by omega) ?_
          exact aw_iret dX7_show_92 rfl ⟨_, rfl, ret2 (by first | (simp only [showT, q1, q2, q3, q4, Bool.false_eq_true, Bool.true_eq_false, reduceCtorEq, if_true, if_false, or_false, false_or, or_true, true_or, and_true, true_and, and_false, false_and, not_true_eq_false, not_false_eq_true, or_self, ← Int32.not_le, frT, isCT, isST, isPT, isZT, shiT]; done) | (rw [showT_eq hS hc8 hc0 hF (by assumption)]; simp only [q1, q2, q3, q4, Bool.false_eq_true, Bool.true_eq_false, reduceCtorEq, if_true, if_false, or_false, false_or, or_true, true_or, and_true, true_and, and_false, false_and, not_true_eq_false, not_false_eq_true, or_self, ← Int32.not_le, frT, isCT, isST, isPT, isZT, shiT]; done) | (rw [showT_eq hS hc8 hc0 hF (by assumption)]; simp only [q1, q2, q3, q4, Bool.false_eq_true, Bool.true_eq_false, reduceCtorEq, if_true, if_false, or_false, false_or, or_true, true_or, and_true, true_and, and_false, false_and, not_true_eq_false, not_false_eq_true, or_self, ← Int32.not_le, frT, isCT, isST, isPT, isZT, shiT]; rfl) | (rw [showT_eq hS hc8 hc0 hF (by assumption)]; rfl)) (hW)⟩
        · refine aw_alo 0 (pcn := 49) rfl dX7_show_48 rfl rfl (rf_some _) ?_
          refine aw_getf (pcn := 52) fl_X7_52 dX7_show_49 rfl hW.mo rfl ?_
          refine aw_bipush (v := nI 35) (pcn := 54) dX7_show_52 rfl (by decide) ?_
          refine aw_alo 0 (pcn := 55) rfl dX7_show_54 rfl rfl (rf_some _) ?_
          refine aw_getf (pcn := 58) fl_X7_28 dX7_show_55 rfl hW.mo rfl ?_
          refine aw_ilo 3 (pcn := 59) rfl dX7_show_58 rfl rfl ?_
          refine aw_ialdM (j := 10) (pcn := 60) hW dX7_show_59 rfl (show _ < 8 by omega) ?_
          rw [hI.by_ hcC (ph21 q4)]
          refine aw_imulN (pcn := 61) dX7_show_60 rfl ?_
          refine aw_iconst (v := nI 1) (pcn := 62) dX7_show_61 rfl (by decide) ?_
          refine aw_iaddN (pcn := 63) dX7_show_62 rfl ?_
          refine aw_ialdM (j := 19) (pcn := 64) hW dX7_show_63 rfl (show _ < 2240 by omega) ?_
          refine aw_alo 0 (pcn := 65) rfl dX7_show_64 rfl rfl (rf_some _) ?_
          refine aw_getf (pcn := 68) fl_X7_52 dX7_show_65 rfl hW.mo rfl ?_
          refine aw_bipush (v := nI 35) (pcn := 70) dX7_show_68 rfl (by decide) ?_
          refine aw_ilo 1 (pcn := 71) rfl dX7_show_70 rfl rfl ?_
          refine aw_imulN (pcn := 72) dX7_show_71 rfl ?_
          refine aw_iconst (v := nI 1) (pcn := 73) dX7_show_72 rfl (by decide) ?_
          refine aw_iaddN (pcn := 74) dX7_show_73 rfl ?_
          refine aw_ialdM (j := 19) (pcn := 75) hW dX7_show_74 rfl (show _ < 2240 by omega) ?_
          refine aw_icmp_lt (t := 81) (pcn := 78) dX7_show_75 rfl (by decide) (fun q5 => ?_) (fun q5 => ?_)
          · replace q5 := Int32.not_le.mpr q5
            refine aw_alo 0 (pcn := 82) rfl dX7_show_81 rfl rfl (rf_some _) ?_
            refine aw_ilo 1 (pcn := 83) rfl dX7_show_82 rfl rfl ?_
            refine aw_Vv (pcn := 86) (r_shows hW (S := S) (c := c) (b := ix (Tr 10 c)) hS hc8 hc0 (fun q => ⟨hI.by_ hcC q, by omega⟩)) mf_X7_shows mv_X7_shows hW.mo rfl ml_X7_120 rfl (by decide) (by decide) (by decide) (by exact Nat.le_of_ble_eq_true rfl) rfl dX7_show_83 rfl (fun h hW => ?_)
            refine aw_alo 0 (pcn := 87) rfl dX7_show_86 rfl rfl (rf_some _) ?_
            refine aw_getf (pcn := 90) fl_X7_31 dX7_show_87 rfl hW.mo rfl ?_
            refine aw_ilo 3 (pcn := 91) rfl dX7_show_90 rfl rfl ?_
            refine aw_ialdM (j := 11) (pcn := 92) hW dX7_show_91 rfl (show _ < 8 by omega) ?_
            exact aw_iret dX7_show_92 rfl ⟨_, rfl, ret2 (by first | (simp only [showT, q1, q2, q3, q4, q5, Bool.false_eq_true, Bool.true_eq_false, reduceCtorEq, if_true, if_false, or_false, false_or, or_true, true_or, and_true, true_and, and_false, false_and, not_true_eq_false, not_false_eq_true, or_self, ← Int32.not_le, frT, isCT, isST, isPT, isZT, shiT]; done) | (rw [showT_eq hS hc8 hc0 hF (by assumption)]; simp only [q1, q2, q3, q4, q5, Bool.false_eq_true, Bool.true_eq_false, reduceCtorEq, if_true, if_false, or_false, false_or, or_true, true_or, and_true, true_and, and_false, false_and, not_true_eq_false, not_false_eq_true, or_self, ← Int32.not_le, frT, isCT, isST, isPT, isZT, shiT]; done) | (rw [showT_eq hS hc8 hc0 hF (by assumption)]; simp only [q1, q2, q3, q4, q5, Bool.false_eq_true, Bool.true_eq_false, reduceCtorEq, if_true, if_false, or_false, false_or, or_true, true_or, and_true, true_and, and_false, false_and, not_true_eq_false, not_false_eq_true, or_self, ← Int32.not_le, frT, isCT, isST, isPT, isZT, shiT]; rfl) | (rw [showT_eq hS hc8 hc0 hF (by assumption)]; rfl)) (hW)⟩
          · replace q5 := Int32.not_lt.mp q5
            refine aw_bipush (v := -4) (pcn := 80) dX7_show_78 rfl (by decide) ?_
            exact aw_iret dX7_show_80 rfl ⟨_, rfl, ret2 (by first | (simp only [showT, q1, q2, q3, q4, q5, Bool.false_eq_true, Bool.true_eq_false, reduceCtorEq, if_true, if_false, or_false, false_or, or_true, true_or, and_true, true_and, and_false, false_and, not_true_eq_false, not_false_eq_true, or_self, ← Int32.not_le, frT, isCT, isST, isPT, isZT, shiT]; done) | (rw [showT_eq hS hc8 hc0 hF (by assumption)]; simp only [q1, q2, q3, q4, q5, Bool.false_eq_true, Bool.true_eq_false, reduceCtorEq, if_true, if_false, or_false, false_or, or_true, true_or, and_true, true_and, and_false, false_and, not_true_eq_false, not_false_eq_true, or_self, ← Int32.not_le, frT, isCT, isST, isPT, isZT, shiT]; done) | (rw [showT_eq hS hc8 hc0 hF (by assumption)]; simp only [q1, q2, q3, q4, q5, Bool.false_eq_true, Bool.true_eq_false, reduceCtorEq, if_true, if_false, or_false, false_or, or_true, true_or, and_true, true_and, and_false, false_and, not_true_eq_false, not_false_eq_true, or_self, ← Int32.not_le, frT, isCT, isST, isPT, isZT, shiT]; rfl) | (rw [showT_eq hS hc8 hc0 hF (by assumption)]; rfl)) (hW)⟩
    · refine aw_bipush (v := -2) (pcn := 29) dX7_show_27 rfl (by decide) ?_
      exact aw_iret dX7_show_29 rfl ⟨_, rfl, ret2 (by first | (simp only [showT, q1, q2, Bool.false_eq_true, Bool.true_eq_false, reduceCtorEq, if_true, if_false, or_false, false_or, or_true, true_or, and_true, true_and, and_false, false_and, not_true_eq_false, not_false_eq_true, or_self, ← Int32.not_le, frT, isCT, isST, isPT, isZT, shiT]; done) | (rw [showT_eq hS hc8 hc0 hF (by assumption)]; simp only [q1, q2, Bool.false_eq_true, Bool.true_eq_false, reduceCtorEq, if_true, if_false, or_false, false_or, or_true, true_or, and_true, true_and, and_false, false_and, not_true_eq_false, not_false_eq_true, or_self, ← Int32.not_le, frT, isCT, isST, isPT, isZT, shiT]; done) | (rw [showT_eq hS hc8 hc0 hF (by assumption)]; simp only [q1, q2, Bool.false_eq_true, Bool.true_eq_false, reduceCtorEq, if_true, if_false, or_false, false_or, or_true, true_or, and_true, true_and, and_false, false_and, not_true_eq_false, not_false_eq_true, or_self, ← Int32.not_le, frT, isCT, isST, isPT, isZT, shiT]; rfl) | (rw [showT_eq hS hc8 hc0 hF (by assumption)]; rfl)) (hW)⟩
  · refine aw_iconst (v := -1) (pcn := 10) dX7_show_9 rfl (by decide) ?_
    exact aw_iret dX7_show_10 rfl ⟨_, rfl, ret2 (by first | (simp only [showT, q1, Bool.false_eq_true, Bool.true_eq_false, reduceCtorEq, if_true, if_false, or_false, false_or, or_true, true_or, and_true, true_and, and_false, false_and, not_true_eq_false, not_false_eq_true, or_self, ← Int32.not_le, frT, isCT, isST, isPT, isZT, shiT]; done) | (rw [showT_eq hS hc8 hc0 hF (by assumption)]; simp only [q1, Bool.false_eq_true, Bool.true_eq_false, reduceCtorEq, if_true, if_false, or_false, false_or, or_true, true_or, and_true, true_and, and_false, false_and, not_true_eq_false, not_false_eq_true, or_self, ← Int32.not_le, frT, isCT, isST, isPT, isZT, shiT]; done) | (rw [showT_eq hS hc8 hc0 hF (by assumption)]; simp only [q1, Bool.false_eq_true, Bool.true_eq_false, reduceCtorEq, if_true, if_false, or_false, false_or, or_true, true_or, and_true, true_and, and_false, false_and, not_true_eq_false, not_false_eq_true, or_self, ← Int32.not_le, frT, isCT, isST, isPT, isZT, shiT]; rfl) | (rw [showT_eq hS hc8 hc0 hF (by assumption)]; rfl)) (hW)⟩

set_option maxHeartbeats 8000000 in
set_option maxRecDepth 20000 in
theorem r_a_agree {X : XG} {l : Launch} {Γ : NM} {ow : Nat → Nat × Nat} {h : Hp} {T Tr : TB} {nh : Nat} (hW : WD Γ ow h T Tr nh) {i C n Z hN : Nat} (hI : Iv i Tr C n Z hN) (s f : Int32) : AM X l yX7_agree cX7_agree 6 (some .int) 4 0 0 [.ref (Γ 14 0), .int s, .int f] h (qi fun r h' => r = (agreeT Tr n s f).1 ∧ WD Γ ow h' T (agreeT Tr n s f).2 nh) := by
  refine AM.of (by decide +kernel) (by simp [Value.category]) (Nat.le_of_ble_eq_true rfl) ?_
  show AW X l cX7_agree RX7 "agree" (some .int) 6 4 none _ 0 0 0 [some (.ref (Γ 14 0)), some (.int s), some (.int f), none, none, none] [] h
  have h64 := hI.n64
  have h8 := hI.C8
  have h16 := hI.Z16
  have h4 := hI.h4
  refine aw_alo 0 (pcn := 1) rfl dX7_agree_0 rfl rfl (rf_some _) ?_
  refine aw_ilo 1 (pcn := 2) rfl dX7_agree_1 rfl rfl ?_
  refine aw_ilo 2 (pcn := 3) rfl dX7_agree_2 rfl rfl ?_
  refine aw_Vi (pcn := 6) (r_isOf hW hI.oST' _) mf_X7_isOf mv_X7_isOf hW.mo rfl ml_X7_155 rfl (by decide) (by decide) (by decide) (by exact Nat.le_of_ble_eq_true rfl) rfl dX7_agree_3 rfl (fun r h2 hq => ?_)
  obtain ⟨rfl, hq⟩ := hq
  obtain rfl := hq.symm
  refine aw_if_neB (t := 11) (pcn := 9) dX7_agree_6 rfl (by decide) (fun q1 => ?_) (fun q1 => ?_)
  · obtain ⟨S, c, F, rfl, rfl, hSn, hcC, hF, hc0, hm1⟩ := hI.oOf q1
    have hS : S < 64 := by omega
    have hc8 : c < 8 := by omega
    refine aw_alo 0 (pcn := 12) rfl dX7_agree_11 rfl rfl (rf_some _) ?_
    refine aw_ilo 1 (pcn := 13) rfl dX7_agree_12 rfl rfl ?_
    refine aw_Vi (pcn := 16) (r_channelOf hW (S := S) hS) mf_X7_channelOf mv_X7_channelOf hW.mo rfl ml_X7_86 rfl (by decide) (by decide) (by decide) (by exact Nat.le_of_ble_eq_true rfl) rfl dX7_agree_13 rfl (fun r h2 hq => ?_)
    obtain ⟨rfl, hq⟩ := hq
    obtain rfl := hq.symm
    rw [hc0]
    refine aw_ist 3 (pcn := 17) rfl dX7_agree_16 rfl (by decide) ?_
    dsimp only [List.set_cons_zero, List.set_cons_succ]
    refine aw_alo 0 (pcn := 18) rfl dX7_agree_17 rfl rfl (rf_some _) ?_
    refine aw_getf (pcn := 21) fl_X7_25 dX7_agree_18 rfl hW.mo rfl ?_
    refine aw_ilo 3 (pcn := 22) rfl dX7_agree_21 rfl rfl ?_
    refine aw_ialdM (j := 9) (pcn := 23) hW dX7_agree_22 rfl (show _ < 8 by omega) ?_
    refine aw_iconst (v := nI 1) (pcn := 24) dX7_agree_23 rfl (by decide) ?_
    refine aw_icmp_eq (t := 30) (pcn := 27) dX7_agree_24 rfl (by decide) (fun q2 => ?_) (fun q2 => ?_)
    · refine aw_bipush (v := nI 35) (pcn := 32) dX7_agree_30 rfl (by decide) ?_
      refine aw_ilo 1 (pcn := 33) rfl dX7_agree_32 rfl rfl ?_
      refine aw_imulN (pcn := 34) dX7_agree_33 rfl ?_
      refine aw_istore (pcn := 36) dX7_agree_34 rfl (by decide) ?_
      dsimp only [List.set_cons_zero, List.set_cons_succ]
      refine aw_alo 0 (pcn := 37) rfl dX7_agree_36 rfl rfl (rf_some _) ?_
      refine aw_ilo 3 (pcn := 38) rfl dX7_agree_37 rfl rfl ?_
      refine aw_Vi (pcn := 41) (r_newest hW (c := c) (n := n) hc8 (by omega) hI.n18) mf_X7_newest mv_X7_newest hW.mo rfl ml_X7_117 rfl (by decide) (by decide) (by decide) (by exact Nat.le_of_ble_eq_true rfl) rfl dX7_agree_38 rfl (fun r h2 hq => ?_)
      obtain ⟨rfl, hq⟩ := hq
      obtain rfl := hq.symm
      refine aw_ilo 1 (pcn := 42) rfl dX7_agree_41 rfl rfl ?_
      refine aw_icmp_ne (t := 61) (pcn := 45) dX7_agree_42 rfl (by decide) (fun q3 => ?_) (fun q3 => ?_)
      · refine aw_bipush (v := -4) (pcn := 63) dX7_agree_61 rfl (by decide) ?_
        exact aw_iret dX7_agree_63 rfl ⟨_, rfl, ret2 (by first | (simp only [agreeT, q1, q2, q3, Bool.false_eq_true, Bool.true_eq_false, reduceCtorEq, if_true, if_false, or_false, false_or, or_true, true_or, and_true, true_and, and_false, false_and, not_true_eq_false, not_false_eq_true, or_self, ← Int32.not_le, frT, isCT, isST, isPT, isZT, shiT]; done) | (rw [agreeT_eq hS hc8 hc0 hF (by assumption)]; simp only [q1, q2, q3, Bool.false_eq_true, Bool.true_eq_false, reduceCtorEq, if_true, if_false, or_false, false_or, or_true, true_or, and_true, true_and, and_false, false_and, not_true_eq_false, not_false_eq_true, or_self, ← Int32.not_le, frT, isCT, isST, isPT, isZT, shiT]; done) | (rw [agreeT_eq hS hc8 hc0 hF (by assumption)]; simp only [q1, q2, q3, Bool.false_eq_true, Bool.true_eq_false, reduceCtorEq, if_true, if_false, or_false, false_or, or_true, true_or, and_true, true_and, and_false, false_and, not_true_eq_false, not_false_eq_true, or_self, ← Int32.not_le, frT, isCT, isST, isPT, isZT, shiT]; rfl) | (rw [agreeT_eq hS hc8 hc0 hF (by assumption)]; rfl)) hW⟩
      · refine aw_alo 0 (pcn := 46) rfl dX7_agree_45 rfl rfl (rf_some _) ?_
        refine aw_getf (pcn := 49) fl_X7_52 dX7_agree_46 rfl hW.mo rfl ?_
        refine aw_iload (pcn := 51) dX7_agree_49 rfl rfl ?_
        refine aw_iconst (v := nI 3) (pcn := 52) dX7_agree_51 rfl (by decide) ?_
        refine aw_iaddN (pcn := 53) dX7_agree_52 rfl ?_
        refine aw_ialdM (j := 19) (pcn := 54) hW dX7_agree_53 rfl (show _ < 2240 by omega) ?_
        refine aw_ilo 2 (pcn := 55) rfl dX7_agree_54 rfl rfl ?_
        refine aw_Si (pcn := 58) (r_has _ _) mf_X7_has mv_X7_has ml_X7_79 rfl (by decide) (by decide) (by decide) (by exact Nat.le_of_ble_eq_true rfl) rfl dX7_agree_55 rfl (fun r h2 hq => ?_)
        obtain ⟨rfl, hq⟩ := hq
        obtain rfl := hq.symm
        refine aw_if_eqB (t := 64) (pcn := 61) dX7_agree_58 rfl (by decide) (fun q4 => ?_) (fun q4 => ?_)
        · refine aw_alo 0 (pcn := 65) rfl dX7_agree_64 rfl rfl (rf_some _) ?_
          refine aw_getf (pcn := 68) fl_X7_52 dX7_agree_65 rfl hW.mo rfl ?_
          refine aw_iload (pcn := 70) dX7_agree_68 rfl rfl ?_
          refine aw_iconst (v := nI 3) (pcn := 71) dX7_agree_70 rfl (by decide) ?_
          refine aw_iaddN (pcn := 72) dX7_agree_71 rfl ?_
          refine aw_dup2 (pcn := 73) dX7_agree_72 rfl rfl rfl ?_
          refine aw_ialdM (j := 19) (pcn := 74) hW dX7_agree_73 rfl (show _ < 2240 by omega) ?_
          refine aw_iconst (v := nI 1) (pcn := 75) dX7_agree_74 rfl (by decide) ?_
          refine aw_ilo 2 (pcn := 76) rfl dX7_agree_75 rfl rfl ?_
          refine aw_ishl (pcn := 77) dX7_agree_76 rfl ?_
          refine aw_iadd (pcn := 78) dX7_agree_77 rfl ?_
          refine aw_iastM (j := 19) (pcn := 79) hW dX7_agree_78 rfl (show _ < 2240 by omega) (fun h hW => ?_)
          refine aw_alo 0 (pcn := 80) rfl dX7_agree_79 rfl rfl (rf_some _) ?_
          refine aw_getf (pcn := 83) fl_X7_52 dX7_agree_80 rfl hW.mo rfl ?_
          refine aw_iload (pcn := 85) dX7_agree_83 rfl rfl ?_
          refine aw_iconst (v := nI 3) (pcn := 86) dX7_agree_85 rfl (by decide) ?_
          refine aw_iaddN (pcn := 87) dX7_agree_86 rfl ?_
          refine aw_ialdM (j := 19) (pcn := 88) hW dX7_agree_87 rfl (show _ < 2240 by omega) ?_
          rw [up_s]
          refine aw_Si (pcn := 91) (r_size _) mf_X7_size mv_X7_size ml_X7_143 rfl (by decide) (by decide) (by decide) (by exact Nat.le_of_ble_eq_true rfl) rfl dX7_agree_88 rfl (fun r h2 hq => ?_)
          obtain ⟨rfl, hq⟩ := hq
          obtain rfl := hq.symm
          refine aw_istore (pcn := 93) dX7_agree_91 rfl (by decide) ?_
          dsimp only [List.set_cons_zero, List.set_cons_succ]
          refine aw_alo 0 (pcn := 94) rfl dX7_agree_93 rfl rfl (rf_some _) ?_
          refine aw_getf (pcn := 97) fl_X7_52 dX7_agree_94 rfl hW.mo rfl ?_
          refine aw_iload (pcn := 99) dX7_agree_97 rfl rfl ?_
          refine aw_iconst (v := nI 3) (pcn := 100) dX7_agree_99 rfl (by decide) ?_
          refine aw_iaddN (pcn := 101) dX7_agree_100 rfl ?_
          refine aw_ialdM (j := 19) (pcn := 102) hW dX7_agree_101 rfl (show _ < 2240 by omega) ?_
          rw [up_s]
          refine aw_alo 0 (pcn := 103) rfl dX7_agree_102 rfl rfl (rf_some _) ?_
          refine aw_getf (pcn := 106) fl_X7_16 dX7_agree_103 rfl hW.mo rfl ?_
          refine aw_ilo 3 (pcn := 107) rfl dX7_agree_106 rfl rfl ?_
          refine aw_ialdM (j := 6) (pcn := 108) hW dX7_agree_107 rfl (show _ < 8 by omega) ?_
          rw [show (up Tr 19 (35 * S + 3) (Tr 19 (35 * S + 3) + nI 1 <<< (nI F &&& 31))) 6 c = Tr 6 c from rfl]
          refine aw_icmp_ne (t := 117) (pcn := 111) dX7_agree_108 rfl (by decide) (fun q5 => ?_) (fun q5 => ?_)
          · refine aw_iload (pcn := 119) dX7_agree_117 rfl rfl ?_
            exact aw_iret dX7_agree_119 rfl ⟨_, rfl, ret2 (by rw [agreeT_eq hS hc8 hc0 hF (by assumption), if_neg (by simp only [q2, Bool.false_eq_true, Bool.true_eq_false, reduceCtorEq, if_true, if_false, or_false, false_or, or_true, true_or, and_true, true_and, and_false, false_and, not_true_eq_false, not_false_eq_true, or_self, ← Int32.not_le, frT, isCT, isST, isPT, isZT, shiT]), if_neg (by simp only [q3, q4, Bool.false_eq_true, Bool.true_eq_false, reduceCtorEq, if_true, if_false, or_false, false_or, or_true, true_or, and_true, true_and, and_false, false_and, not_true_eq_false, not_false_eq_true, or_self, ← Int32.not_le, frT, isCT, isST, isPT, isZT, shiT])]; first | (rw [if_pos (show Tr 19 (35 * S + 3) + shiT F = Tr 6 c from q5)]; done) | (rw [if_pos (show Tr 19 (35 * S + 3) + shiT F = Tr 6 c from q5)]; rfl) | (rw [if_neg (show ¬ Tr 19 (35 * S + 3) + shiT F = Tr 6 c from q5)]; done) | (rw [if_neg (show ¬ Tr 19 (35 * S + 3) + shiT F = Tr 6 c from q5)]; rfl)) hW⟩
          · refine aw_alo 0 (pcn := 112) rfl dX7_agree_111 rfl rfl (rf_some _) ?_
            refine aw_ilo 3 (pcn := 113) rfl dX7_agree_112 rfl rfl ?_
            refine aw_ilo 1 (pcn := 114) rfl dX7_agree_113 rfl rfl ?_
            refine aw_Vv (pcn := 117) (r_takesOut hW (S := S) (c := c) hS hc8 (fun k hk _ => by rw [up_i _ _ _ (by omega)]; exact hI.lkP hSn hk)) mf_X7_takesOut mv_X7_takesOut hW.mo rfl ml_X7_179 rfl (by decide) (by decide) (by decide) (by exact Nat.le_of_ble_eq_true rfl) rfl dX7_agree_114 rfl (fun h hW => ?_)
            refine aw_iload (pcn := 119) dX7_agree_117 rfl rfl ?_
            exact aw_iret dX7_agree_119 rfl ⟨_, rfl, ret2 (by rw [agreeT_eq hS hc8 hc0 hF (by assumption), if_neg (by simp only [q2, Bool.false_eq_true, Bool.true_eq_false, reduceCtorEq, if_true, if_false, or_false, false_or, or_true, true_or, and_true, true_and, and_false, false_and, not_true_eq_false, not_false_eq_true, or_self, ← Int32.not_le, frT, isCT, isST, isPT, isZT, shiT]), if_neg (by simp only [q3, q4, Bool.false_eq_true, Bool.true_eq_false, reduceCtorEq, if_true, if_false, or_false, false_or, or_true, true_or, and_true, true_and, and_false, false_and, not_true_eq_false, not_false_eq_true, or_self, ← Int32.not_le, frT, isCT, isST, isPT, isZT, shiT])]; first | (rw [if_pos (show Tr 19 (35 * S + 3) + shiT F = Tr 6 c from q5)]; done) | (rw [if_pos (show Tr 19 (35 * S + 3) + shiT F = Tr 6 c from q5)]; rfl) | (rw [if_neg (show ¬ Tr 19 (35 * S + 3) + shiT F = Tr 6 c from q5)]; done) | (rw [if_neg (show ¬ Tr 19 (35 * S + 3) + shiT F = Tr 6 c from q5)]; rfl)) hW⟩
        · refine aw_bipush (v := -4) (pcn := 63) dX7_agree_61 rfl (by decide) ?_
          exact aw_iret dX7_agree_63 rfl ⟨_, rfl, ret2 (by first | (simp only [agreeT, q1, q2, q3, q4, Bool.false_eq_true, Bool.true_eq_false, reduceCtorEq, if_true, if_false, or_false, false_or, or_true, true_or, and_true, true_and, and_false, false_and, not_true_eq_false, not_false_eq_true, or_self, ← Int32.not_le, frT, isCT, isST, isPT, isZT, shiT]; done) | (rw [agreeT_eq hS hc8 hc0 hF (by assumption)]; simp only [q1, q2, q3, q4, Bool.false_eq_true, Bool.true_eq_false, reduceCtorEq, if_true, if_false, or_false, false_or, or_true, true_or, and_true, true_and, and_false, false_and, not_true_eq_false, not_false_eq_true, or_self, ← Int32.not_le, frT, isCT, isST, isPT, isZT, shiT]; done) | (rw [agreeT_eq hS hc8 hc0 hF (by assumption)]; simp only [q1, q2, q3, q4, Bool.false_eq_true, Bool.true_eq_false, reduceCtorEq, if_true, if_false, or_false, false_or, or_true, true_or, and_true, true_and, and_false, false_and, not_true_eq_false, not_false_eq_true, or_self, ← Int32.not_le, frT, isCT, isST, isPT, isZT, shiT]; rfl) | (rw [agreeT_eq hS hc8 hc0 hF (by assumption)]; rfl)) hW⟩
    · refine aw_bipush (v := -2) (pcn := 29) dX7_agree_27 rfl (by decide) ?_
      exact aw_iret dX7_agree_29 rfl ⟨_, rfl, ret2 (by first | (simp only [agreeT, q1, q2, Bool.false_eq_true, Bool.true_eq_false, reduceCtorEq, if_true, if_false, or_false, false_or, or_true, true_or, and_true, true_and, and_false, false_and, not_true_eq_false, not_false_eq_true, or_self, ← Int32.not_le, frT, isCT, isST, isPT, isZT, shiT]; done) | (rw [agreeT_eq hS hc8 hc0 hF (by assumption)]; simp only [q1, q2, Bool.false_eq_true, Bool.true_eq_false, reduceCtorEq, if_true, if_false, or_false, false_or, or_true, true_or, and_true, true_and, and_false, false_and, not_true_eq_false, not_false_eq_true, or_self, ← Int32.not_le, frT, isCT, isST, isPT, isZT, shiT]; done) | (rw [agreeT_eq hS hc8 hc0 hF (by assumption)]; simp only [q1, q2, Bool.false_eq_true, Bool.true_eq_false, reduceCtorEq, if_true, if_false, or_false, false_or, or_true, true_or, and_true, true_and, and_false, false_and, not_true_eq_false, not_false_eq_true, or_self, ← Int32.not_le, frT, isCT, isST, isPT, isZT, shiT]; rfl) | (rw [agreeT_eq hS hc8 hc0 hF (by assumption)]; rfl)) hW⟩
  · refine aw_iconst (v := -1) (pcn := 10) dX7_agree_9 rfl (by decide) ?_
    exact aw_iret dX7_agree_10 rfl ⟨_, rfl, ret2 (by first | (simp only [agreeT, q1, Bool.false_eq_true, Bool.true_eq_false, reduceCtorEq, if_true, if_false, or_false, false_or, or_true, true_or, and_true, true_and, and_false, false_and, not_true_eq_false, not_false_eq_true, or_self, ← Int32.not_le, frT, isCT, isST, isPT, isZT, shiT]; done) | (rw [agreeT_eq hS hc8 hc0 hF (by assumption)]; simp only [q1, Bool.false_eq_true, Bool.true_eq_false, reduceCtorEq, if_true, if_false, or_false, false_or, or_true, true_or, and_true, true_and, and_false, false_and, not_true_eq_false, not_false_eq_true, or_self, ← Int32.not_le, frT, isCT, isST, isPT, isZT, shiT]; done) | (rw [agreeT_eq hS hc8 hc0 hF (by assumption)]; simp only [q1, Bool.false_eq_true, Bool.true_eq_false, reduceCtorEq, if_true, if_false, or_false, false_or, or_true, true_or, and_true, true_and, and_false, false_and, not_true_eq_false, not_false_eq_true, or_self, ← Int32.not_le, frT, isCT, isST, isPT, isZT, shiT]; rfl) | (rw [agreeT_eq hS hc8 hc0 hF (by assumption)]; rfl)) hW⟩

set_option maxHeartbeats 8000000 in
set_option maxRecDepth 20000 in
theorem r_a_secret {X : XG} {l : Launch} {Γ : NM} {ow : Nat → Nat × Nat} {h : Hp} {T Tr : TB} {nh : Nat} (hW : WD Γ ow h T Tr nh) {i C n Z hN : Nat} (hI : Iv i Tr C n Z hN) (p : Int32) : AM X l yX7_secret cX7_secret 2 (some .int) 2 0 0 [.ref (Γ 14 0), .int p] h (qi fun r h' => r = (secretT Tr Z p).1 ∧ WD Γ ow h' T (secretT Tr Z p).2 nh) := by
  refine AM.of (by decide +kernel) (by simp [Value.category]) (Nat.le_of_ble_eq_true rfl) ?_
  show AW X l cX7_secret RX7 "secret" (some .int) 2 2 none _ 0 0 0 [some (.ref (Γ 14 0)), some (.int p)] [] h
  have h64 := hI.n64
  have h8 := hI.C8
  have h16 := hI.Z16
  have h4 := hI.h4
  refine aw_ilo 1 (pcn := 1) rfl dX7_secret_0 rfl rfl ?_
  refine aw_Si (pcn := 4) (r_isParty _) mf_X7_isParty mv_X7_isParty ml_X7_75 rfl (by decide) (by decide) (by decide) (by exact Nat.le_of_ble_eq_true rfl) rfl dX7_secret_1 rfl (fun r h2 hq => ?_)
  obtain ⟨rfl, hq⟩ := hq
  obtain rfl := hq.symm
  refine aw_if_neB (t := 9) (pcn := 7) dX7_secret_4 rfl (by decide) (fun q1 => ?_) (fun q1 => ?_)
  · obtain ⟨F, hF, rfl⟩ := isPT_nI q1
    refine aw_alo 0 (pcn := 10) rfl dX7_secret_9 rfl rfl (rf_some _) ?_
    refine aw_getf (pcn := 13) fl_X7_165 dX7_secret_10 rfl hW.mo rfl ?_
    refine aw_bipush (v := nI 16) (pcn := 15) dX7_secret_13 rfl (by decide) ?_
    refine aw_icmp_ne (t := 21) (pcn := 18) dX7_secret_15 rfl (by decide) (fun q2 => ?_) (fun q2 => ?_)
    · have hZ : Z < 16 := by
        rcases Nat.lt_or_ge Z 16 with e | e
        · exact e
        · exact absurd (by rw [hI.z3, show Z = 16 by omega]) q2
      refine aw_alo 0 (pcn := 22) rfl dX7_secret_21 rfl rfl (rf_some _) ?_
      refine aw_getf (pcn := 25) fl_X7_13 dX7_secret_22 rfl hW.mo rfl ?_
      refine aw_alo 0 (pcn := 26) rfl dX7_secret_25 rfl rfl (rf_some _) ?_
      refine aw_getf (pcn := 29) fl_X7_165 dX7_secret_26 rfl hW.mo rfl ?_
      rw [hI.z3]
      refine aw_iconst (v := nI 1) (pcn := 30) dX7_secret_29 rfl (by decide) ?_
      refine aw_ilo 1 (pcn := 31) rfl dX7_secret_30 rfl rfl ?_
      refine aw_ishl (pcn := 32) dX7_secret_31 rfl ?_
      refine aw_iastM (j := 4) (pcn := 33) hW dX7_secret_32 rfl (show _ < 16 by omega) (fun h hW => ?_)
      refine aw_alo 0 (pcn := 34) rfl dX7_secret_33 rfl rfl (rf_some _) ?_
      refine aw_dup (pcn := 35) dX7_secret_34 rfl rfl ?_
      refine aw_getf (pcn := 38) fl_X7_165 dX7_secret_35 rfl hW.mo rfl ?_
      rw [show (up Tr 4 Z (nI 1 <<< (nI F &&& 31))) 3 0 = nI Z from hI.z3]
      refine aw_iconst (v := nI 1) (pcn := 39) dX7_secret_38 rfl (by decide) ?_
      refine aw_iaddN (pcn := 40) dX7_secret_39 rfl ?_
      refine aw_putM (pcn := 43) hW fp_X7_165 rfl (ms_3 _ _ _) (by decide) dX7_secret_40 rfl (fun h hW => ?_)
      refine aw_alo 0 (pcn := 44) rfl dX7_secret_43 rfl rfl (rf_some _) ?_
      refine aw_getf (pcn := 47) fl_X7_165 dX7_secret_44 rfl hW.mo rfl ?_
      rw [up_s]
      refine aw_iconst (v := nI 1) (pcn := 48) dX7_secret_47 rfl (by decide) ?_
      refine aw_isub (pcn := 49) dX7_secret_48 rfl ?_
      rw [pk_sub (show 1 ≤ Z + 1 by omega)]
      exact aw_iret dX7_secret_49 rfl ⟨_, rfl, ret2 (by first | (simp only [secretT, q1, q2, Bool.false_eq_true, Bool.true_eq_false, reduceCtorEq, if_true, if_false, or_false, false_or, or_true, true_or, and_true, true_and, and_false, false_and, not_true_eq_false, not_false_eq_true, or_self, ← Int32.not_le, frT, isCT, isST, isPT, isZT, shiT]; done) | (rw [secretT_eq hF (by assumption)]; simp only [q1, q2, Bool.false_eq_true, Bool.true_eq_false, reduceCtorEq, if_true, if_false, or_false, false_or, or_true, true_or, and_true, true_and, and_false, false_and, not_true_eq_false, not_false_eq_true, or_self, ← Int32.not_le, frT, isCT, isST, isPT, isZT, shiT]; done) | (rw [secretT_eq hF (by assumption)]; simp only [q1, q2, Bool.false_eq_true, Bool.true_eq_false, reduceCtorEq, if_true, if_false, or_false, false_or, or_true, true_or, and_true, true_and, and_false, false_and, not_true_eq_false, not_false_eq_true, or_self, ← Int32.not_le, frT, isCT, isST, isPT, isZT, shiT]; rfl) | (rw [secretT_eq hF (by assumption)]; rfl)) (hW)⟩
    · refine aw_bipush (v := -4) (pcn := 20) dX7_secret_18 rfl (by decide) ?_
      exact aw_iret dX7_secret_20 rfl ⟨_, rfl, ret2 (by first | (simp only [secretT, q1, q2, Bool.false_eq_true, Bool.true_eq_false, reduceCtorEq, if_true, if_false, or_false, false_or, or_true, true_or, and_true, true_and, and_false, false_and, not_true_eq_false, not_false_eq_true, or_self, ← Int32.not_le, frT, isCT, isST, isPT, isZT, shiT]; done) | (rw [secretT_eq hF (by assumption)]; simp only [q1, q2, Bool.false_eq_true, Bool.true_eq_false, reduceCtorEq, if_true, if_false, or_false, false_or, or_true, true_or, and_true, true_and, and_false, false_and, not_true_eq_false, not_false_eq_true, or_self, ← Int32.not_le, frT, isCT, isST, isPT, isZT, shiT]; done) | (rw [secretT_eq hF (by assumption)]; simp only [q1, q2, Bool.false_eq_true, Bool.true_eq_false, reduceCtorEq, if_true, if_false, or_false, false_or, or_true, true_or, and_true, true_and, and_false, false_and, not_true_eq_false, not_false_eq_true, or_self, ← Int32.not_le, frT, isCT, isST, isPT, isZT, shiT]; rfl) | (rw [secretT_eq hF (by assumption)]; rfl)) (hW)⟩
  · refine aw_iconst (v := -1) (pcn := 8) dX7_secret_7 rfl (by decide) ?_
    exact aw_iret dX7_secret_8 rfl ⟨_, rfl, ret2 (by first | (simp only [secretT, q1, Bool.false_eq_true, Bool.true_eq_false, reduceCtorEq, if_true, if_false, or_false, false_or, or_true, true_or, and_true, true_and, and_false, false_and, not_true_eq_false, not_false_eq_true, or_self, ← Int32.not_le, frT, isCT, isST, isPT, isZT, shiT]; done) | (rw [secretT_eq hF (by assumption)]; simp only [q1, Bool.false_eq_true, Bool.true_eq_false, reduceCtorEq, if_true, if_false, or_false, false_or, or_true, true_or, and_true, true_and, and_false, false_and, not_true_eq_false, not_false_eq_true, or_self, ← Int32.not_le, frT, isCT, isST, isPT, isZT, shiT]; done) | (rw [secretT_eq hF (by assumption)]; simp only [q1, Bool.false_eq_true, Bool.true_eq_false, reduceCtorEq, if_true, if_false, or_false, false_or, or_true, true_or, and_true, true_and, and_false, false_and, not_true_eq_false, not_false_eq_true, or_self, ← Int32.not_le, frT, isCT, isST, isPT, isZT, shiT]; rfl) | (rw [secretT_eq hF (by assumption)]; rfl)) (hW)⟩

set_option maxHeartbeats 8000000 in
set_option maxRecDepth 20000 in
theorem r_a_tell {X : XG} {l : Launch} {Γ : NM} {ow : Nat → Nat × Nat} {h : Hp} {T Tr : TB} {nh : Nat} (hW : WD Γ ow h T Tr nh) {i C n Z hN : Nat} (hI : Iv i Tr C n Z hN) (z f t : Int32) : AM X l yX7_tell cX7_tell 5 (some .int) 2 0 0 [.ref (Γ 14 0), .int z, .int f, .int t] h (qi fun r h' => r = (tellT Tr z f t).1 ∧ WD Γ ow h' T (tellT Tr z f t).2 nh) := by
  refine AM.of (by decide +kernel) (by simp [Value.category]) (Nat.le_of_ble_eq_true rfl) ?_
  show AW X l cX7_tell RX7 "tell" (some .int) 5 2 none _ 0 0 0 [some (.ref (Γ 14 0)), some (.int z), some (.int f), some (.int t), none] [] h
  have h64 := hI.n64
  have h8 := hI.C8
  have h16 := hI.Z16
  have h4 := hI.h4
  refine aw_ilo 1 (pcn := 1) rfl dX7_tell_0 rfl rfl ?_
  refine aw_iconst (v := nI 0) (pcn := 2) dX7_tell_1 rfl (by decide) ?_
  refine aw_alo 0 (pcn := 3) rfl dX7_tell_2 rfl rfl (rf_some _) ?_
  refine aw_getf (pcn := 6) fl_X7_165 dX7_tell_3 rfl hW.mo rfl ?_
  refine aw_iconst (v := nI 1) (pcn := 7) dX7_tell_6 rfl (by decide) ?_
  refine aw_isub (pcn := 8) dX7_tell_7 rfl ?_
  refine aw_Si (pcn := 11) (r_isIn _ _ _) mf_X7_isIn mv_X7_isIn ml_X7_64 rfl (by decide) (by decide) (by decide) (by exact Nat.le_of_ble_eq_true rfl) rfl dX7_tell_8 rfl (fun r h2 hq => ?_)
  obtain ⟨rfl, hq⟩ := hq
  obtain rfl := hq.symm
  refine aw_if_eqB (t := 28) (pcn := 14) dX7_tell_11 rfl (by decide) (fun q1 => ?_) (fun q1 => ?_)
  · refine aw_iconst (v := -1) (pcn := 29) dX7_tell_28 rfl (by decide) ?_
    exact aw_iret dX7_tell_29 rfl ⟨_, rfl, ret2 (by first | (simp only [tellT, q1, Bool.false_eq_true, Bool.true_eq_false, reduceCtorEq, if_true, if_false, or_false, false_or, or_true, true_or, and_true, true_and, and_false, false_and, not_true_eq_false, not_false_eq_true, or_self, ← Int32.not_le, frT, isCT, isST, isPT, isZT, shiT]; done) | (rw [tellT_eq (by omega) hF hP (by assumption) (by assumption) (by assumption)]; simp only [q1, Bool.false_eq_true, Bool.true_eq_false, reduceCtorEq, if_true, if_false, or_false, false_or, or_true, true_or, and_true, true_and, and_false, false_and, not_true_eq_false, not_false_eq_true, or_self, ← Int32.not_le, frT, isCT, isST, isPT, isZT, shiT]; done) | (rw [tellT_eq (by omega) hF hP (by assumption) (by assumption) (by assumption)]; simp only [q1, Bool.false_eq_true, Bool.true_eq_false, reduceCtorEq, if_true, if_false, or_false, false_or, or_true, true_or, and_true, true_and, and_false, false_and, not_true_eq_false, not_false_eq_true, or_self, ← Int32.not_le, frT, isCT, isST, isPT, isZT, shiT]; rfl) | (rw [tellT_eq (by omega) hF hP (by assumption) (by assumption) (by assumption)]; rfl)) (hW)⟩
  · obtain ⟨K, hK, rfl⟩ := oZ hI q1
    refine aw_ilo 2 (pcn := 15) rfl dX7_tell_14 rfl rfl ?_
    refine aw_Si (pcn := 18) (r_isParty _) mf_X7_isParty mv_X7_isParty ml_X7_75 rfl (by decide) (by decide) (by decide) (by exact Nat.le_of_ble_eq_true rfl) rfl dX7_tell_15 rfl (fun r h2 hq => ?_)
    obtain ⟨rfl, hq⟩ := hq
    obtain rfl := hq.symm
    refine aw_if_eqB (t := 28) (pcn := 21) dX7_tell_18 rfl (by decide) (fun q2 => ?_) (fun q2 => ?_)
    · refine aw_iconst (v := -1) (pcn := 29) dX7_tell_28 rfl (by decide) ?_
      exact aw_iret dX7_tell_29 rfl ⟨_, rfl, ret2 (by first | (simp only [tellT, q1, q2, Bool.false_eq_true, Bool.true_eq_false, reduceCtorEq, if_true, if_false, or_false, false_or, or_true, true_or, and_true, true_and, and_false, false_and, not_true_eq_false, not_false_eq_true, or_self, ← Int32.not_le, frT, isCT, isST, isPT, isZT, shiT]; done) | (rw [tellT_eq (by omega) hF hP (by assumption) (by assumption) (by assumption)]; simp only [q1, q2, Bool.false_eq_true, Bool.true_eq_false, reduceCtorEq, if_true, if_false, or_false, false_or, or_true, true_or, and_true, true_and, and_false, false_and, not_true_eq_false, not_false_eq_true, or_self, ← Int32.not_le, frT, isCT, isST, isPT, isZT, shiT]; done) | (rw [tellT_eq (by omega) hF hP (by assumption) (by assumption) (by assumption)]; simp only [q1, q2, Bool.false_eq_true, Bool.true_eq_false, reduceCtorEq, if_true, if_false, or_false, false_or, or_true, true_or, and_true, true_and, and_false, false_and, not_true_eq_false, not_false_eq_true, or_self, ← Int32.not_le, frT, isCT, isST, isPT, isZT, shiT]; rfl) | (rw [tellT_eq (by omega) hF hP (by assumption) (by assumption) (by assumption)]; rfl)) (hW)⟩
    · obtain ⟨F, hF, rfl⟩ := isPT_nI q2
      refine aw_ilo 3 (pcn := 22) rfl dX7_tell_21 rfl rfl ?_
      refine aw_Si (pcn := 25) (r_isParty _) mf_X7_isParty mv_X7_isParty ml_X7_75 rfl (by decide) (by decide) (by decide) (by exact Nat.le_of_ble_eq_true rfl) rfl dX7_tell_22 rfl (fun r h2 hq => ?_)
      obtain ⟨rfl, hq⟩ := hq
      obtain rfl := hq.symm
      refine aw_if_neB (t := 30) (pcn := 28) dX7_tell_25 rfl (by decide) (fun q3 => ?_) (fun q3 => ?_)
      · obtain ⟨P, hP, rfl⟩ := isPT_nI q3
        refine aw_alo 0 (pcn := 31) rfl dX7_tell_30 rfl rfl (rf_some _) ?_
        refine aw_getf (pcn := 34) fl_X7_13 dX7_tell_31 rfl hW.mo rfl ?_
        refine aw_ilo 1 (pcn := 35) rfl dX7_tell_34 rfl rfl ?_
        refine aw_ialdM (j := 4) (pcn := 36) hW dX7_tell_35 rfl (show _ < 16 by omega) ?_
        refine aw_ilo 2 (pcn := 37) rfl dX7_tell_36 rfl rfl ?_
        refine aw_Si (pcn := 40) (r_has _ _) mf_X7_has mv_X7_has ml_X7_79 rfl (by decide) (by decide) (by decide) (by exact Nat.le_of_ble_eq_true rfl) rfl dX7_tell_37 rfl (fun r h2 hq => ?_)
        obtain ⟨rfl, hq⟩ := hq
        obtain rfl := hq.symm
        refine aw_if_neB (t := 46) (pcn := 43) dX7_tell_40 rfl (by decide) (fun q4 => ?_) (fun q4 => ?_)
        · refine aw_alo 0 (pcn := 47) rfl dX7_tell_46 rfl rfl (rf_some _) ?_
          refine aw_getf (pcn := 50) fl_X7_13 dX7_tell_47 rfl hW.mo rfl ?_
          refine aw_ilo 1 (pcn := 51) rfl dX7_tell_50 rfl rfl ?_
          refine aw_ialdM (j := 4) (pcn := 52) hW dX7_tell_51 rfl (show _ < 16 by omega) ?_
          refine aw_istore (pcn := 54) dX7_tell_52 rfl (by decide) ?_
          dsimp only [List.set_cons_zero, List.set_cons_succ]
          refine aw_alo 0 (pcn := 55) rfl dX7_tell_54 rfl rfl (rf_some _) ?_
          refine aw_getf (pcn := 58) fl_X7_13 dX7_tell_55 rfl hW.mo rfl ?_
          refine aw_ilo 1 (pcn := 59) rfl dX7_tell_58 rfl rfl ?_
          refine aw_iload (pcn := 61) dX7_tell_59 rfl rfl ?_
          refine aw_iconst (v := nI 1) (pcn := 62) dX7_tell_61 rfl (by decide) ?_
          refine aw_ilo 3 (pcn := 63) rfl dX7_tell_62 rfl rfl ?_
          refine aw_ishl (pcn := 64) dX7_tell_63 rfl ?_
          refine aw_ior (pcn := 65) dX7_tell_64 rfl ?_
          refine aw_iastM (j := 4) (pcn := 66) hW dX7_tell_65 rfl (show _ < 16 by omega) (fun h hW => ?_)
          refine aw_alo 0 (pcn := 67) rfl dX7_tell_66 rfl rfl (rf_some _) ?_
          refine aw_getf (pcn := 70) fl_X7_13 dX7_tell_67 rfl hW.mo rfl ?_
          refine aw_ilo 1 (pcn := 71) rfl dX7_tell_70 rfl rfl ?_
          refine aw_ialdM (j := 4) (pcn := 72) hW dX7_tell_71 rfl (show _ < 16 by omega) ?_
          rw [up_s]
          refine aw_iload (pcn := 74) dX7_tell_72 rfl rfl ?_
          refine aw_icmp_ne (t := 81) (pcn := 77) dX7_tell_74 rfl (by decide) (fun q5 => ?_) (fun q5 => ?_)
          · refine aw_iconst (v := nI 1) (pcn := 82) dX7_tell_81 rfl (by decide) ?_
            exact aw_iret dX7_tell_82 rfl ⟨_, rfl, ret2 (by first | (simp only [tellT, q1, q2, q3, q4, q5, Bool.false_eq_true, Bool.true_eq_false, reduceCtorEq, if_true, if_false, or_false, false_or, or_true, true_or, and_true, true_and, and_false, false_and, not_true_eq_false, not_false_eq_true, or_self, ← Int32.not_le, frT, isCT, isST, isPT, isZT, shiT]; done) | (rw [tellT_eq (by omega) hF hP (by assumption) (by assumption) (by assumption)]; simp only [q1, q2, q3, q4, q5, Bool.false_eq_true, Bool.true_eq_false, reduceCtorEq, if_true, if_false, or_false, false_or, or_true, true_or, and_true, true_and, and_false, false_and, not_true_eq_false, not_false_eq_true, or_self, ← Int32.not_le, frT, isCT, isST, isPT, isZT, shiT]; done) | (rw [tellT_eq (by omega) hF hP (by assumption) (by assumption) (by assumption)]; simp only [q1, q2, q3, q4, q5, Bool.false_eq_true, Bool.true_eq_false, reduceCtorEq, if_true, if_false, or_false, false_or, or_true, true_or, and_true, true_and, and_false, false_and, not_true_eq_false, not_false_eq_true, or_self, ← Int32.not_le, frT, isCT, isST, isPT, isZT, shiT]; rfl) | (rw [tellT_eq (by omega) hF hP (by assumption) (by assumption) (by assumption)]; rfl)) (hW)⟩
          · refine aw_iconst (v := nI 0) (pcn := 78) dX7_tell_77 rfl (by decide) ?_
            refine aw_goto (t := 82) dX7_tell_78 (by decide) ?_
            exact aw_iret dX7_tell_82 rfl ⟨_, rfl, ret2 (by first | (simp only [tellT, q1, q2, q3, q4, q5, Bool.false_eq_true, Bool.true_eq_false, reduceCtorEq, if_true, if_false, or_false, false_or, or_true, true_or, and_true, true_and, and_false, false_and, not_true_eq_false, not_false_eq_true, or_self, ← Int32.not_le, frT, isCT, isST, isPT, isZT, shiT]; done) | (rw [tellT_eq (by omega) hF hP (by assumption) (by assumption) (by assumption)]; simp only [q1, q2, q3, q4, q5, Bool.false_eq_true, Bool.true_eq_false, reduceCtorEq, if_true, if_false, or_false, false_or, or_true, true_or, and_true, true_and, and_false, false_and, not_true_eq_false, not_false_eq_true, or_self, ← Int32.not_le, frT, isCT, isST, isPT, isZT, shiT]; done) | (rw [tellT_eq (by omega) hF hP (by assumption) (by assumption) (by assumption)]; simp only [q1, q2, q3, q4, q5, Bool.false_eq_true, Bool.true_eq_false, reduceCtorEq, if_true, if_false, or_false, false_or, or_true, true_or, and_true, true_and, and_false, false_and, not_true_eq_false, not_false_eq_true, or_self, ← Int32.not_le, frT, isCT, isST, isPT, isZT, shiT]; rfl) | (rw [tellT_eq (by omega) hF hP (by assumption) (by assumption) (by assumption)]; rfl)) (hW)⟩
        · refine aw_bipush (v := -4) (pcn := 45) dX7_tell_43 rfl (by decide) ?_
          exact aw_iret dX7_tell_45 rfl ⟨_, rfl, ret2 (by first | (simp only [tellT, q1, q2, q3, q4, Bool.false_eq_true, Bool.true_eq_false, reduceCtorEq, if_true, if_false, or_false, false_or, or_true, true_or, and_true, true_and, and_false, false_and, not_true_eq_false, not_false_eq_true, or_self, ← Int32.not_le, frT, isCT, isST, isPT, isZT, shiT]; done) | (rw [tellT_eq (by omega) hF hP (by assumption) (by assumption) (by assumption)]; simp only [q1, q2, q3, q4, Bool.false_eq_true, Bool.true_eq_false, reduceCtorEq, if_true, if_false, or_false, false_or, or_true, true_or, and_true, true_and, and_false, false_and, not_true_eq_false, not_false_eq_true, or_self, ← Int32.not_le, frT, isCT, isST, isPT, isZT, shiT]; done) | (rw [tellT_eq (by omega) hF hP (by assumption) (by assumption) (by assumption)]; simp only [q1, q2, q3, q4, Bool.false_eq_true, Bool.true_eq_false, reduceCtorEq, if_true, if_false, or_false, false_or, or_true, true_or, and_true, true_and, and_false, false_and, not_true_eq_false, not_false_eq_true, or_self, ← Int32.not_le, frT, isCT, isST, isPT, isZT, shiT]; rfl) | (rw [tellT_eq (by omega) hF hP (by assumption) (by assumption) (by assumption)]; rfl)) (hW)⟩
      · refine aw_iconst (v := -1) (pcn := 29) dX7_tell_28 rfl (by decide) ?_
        exact aw_iret dX7_tell_29 rfl ⟨_, rfl, ret2 (by first | (simp only [tellT, q1, q2, q3, Bool.false_eq_true, Bool.true_eq_false, reduceCtorEq, if_true, if_false, or_false, false_or, or_true, true_or, and_true, true_and, and_false, false_and, not_true_eq_false, not_false_eq_true, or_self, ← Int32.not_le, frT, isCT, isST, isPT, isZT, shiT]; done) | (rw [tellT_eq (by omega) hF hP (by assumption) (by assumption) (by assumption)]; simp only [q1, q2, q3, Bool.false_eq_true, Bool.true_eq_false, reduceCtorEq, if_true, if_false, or_false, false_or, or_true, true_or, and_true, true_and, and_false, false_and, not_true_eq_false, not_false_eq_true, or_self, ← Int32.not_le, frT, isCT, isST, isPT, isZT, shiT]; done) | (rw [tellT_eq (by omega) hF hP (by assumption) (by assumption) (by assumption)]; simp only [q1, q2, q3, Bool.false_eq_true, Bool.true_eq_false, reduceCtorEq, if_true, if_false, or_false, false_or, or_true, true_or, and_true, true_and, and_false, false_and, not_true_eq_false, not_false_eq_true, or_self, ← Int32.not_le, frT, isCT, isST, isPT, isZT, shiT]; rfl) | (rw [tellT_eq (by omega) hF hP (by assumption) (by assumption) (by assumption)]; rfl)) (hW)⟩

set_option maxHeartbeats 8000000 in
set_option maxRecDepth 20000 in
theorem r_a_claim {X : XG} {l : Launch} {Γ : NM} {ow : Nat → Nat × Nat} {h : Hp} {T Tr : TB} {nh : Nat} (hW : WD Γ ow h T Tr nh) {i C n Z hN : Nat} (hI : Iv i Tr C n Z hN) (k p q : Int32) : AM X l yX7_claim cX7_claim 4 (some .int) 3 0 0 [.ref (Γ 14 0), .int k, .int p, .int q] h (qi fun r h' => r = (claimT Tr k p q).1 ∧ WD Γ ow h' T (claimT Tr k p q).2 nh) := by
  refine AM.of (by decide +kernel) (by simp [Value.category]) (Nat.le_of_ble_eq_true rfl) ?_
  show AW X l cX7_claim RX7 "claim" (some .int) 4 3 none _ 0 0 0 [some (.ref (Γ 14 0)), some (.int k), some (.int p), some (.int q)] [] h
  have h64 := hI.n64
  have h8 := hI.C8
  have h16 := hI.Z16
  have h4 := hI.h4
  refine aw_alo 0 (pcn := 1) rfl dX7_claim_0 rfl rfl (rf_some _) ?_
  refine aw_ilo 1 (pcn := 2) rfl dX7_claim_1 rfl rfl ?_
  refine aw_Vi (pcn := 5) (r_isChannel hW _) mf_X7_isChannel mv_X7_isChannel hW.mo rfl ml_X7_149 rfl (by decide) (by decide) (by decide) (by exact Nat.le_of_ble_eq_true rfl) rfl dX7_claim_2 rfl (fun r h2 hq => ?_)
  obtain ⟨rfl, hq⟩ := hq
  obtain rfl := hq.symm
  refine aw_if_eqB (t := 24) (pcn := 8) dX7_claim_5 rfl (by decide) (fun q1 => ?_) (fun q1 => ?_)
  · refine aw_iconst (v := -1) (pcn := 25) dX7_claim_24 rfl (by decide) ?_
    exact aw_iret dX7_claim_25 rfl ⟨_, rfl, ret2 (by first | (simp only [claimT, q1, Bool.false_eq_true, Bool.true_eq_false, reduceCtorEq, if_true, if_false, or_false, false_or, or_true, true_or, and_true, true_and, and_false, false_and, not_true_eq_false, not_false_eq_true, or_self, ← Int32.not_le, frT, isCT, isST, isPT, isZT, shiT]; done) | (rw [claimT_eq hc8 hK hF (by assumption) (by assumption) (by assumption)]; simp only [q1, Bool.false_eq_true, Bool.true_eq_false, reduceCtorEq, if_true, if_false, or_false, false_or, or_true, true_or, and_true, true_and, and_false, false_and, not_true_eq_false, not_false_eq_true, or_self, ← Int32.not_le, frT, isCT, isST, isPT, isZT, shiT]; done) | (rw [claimT_eq hc8 hK hF (by assumption) (by assumption) (by assumption)]; simp only [q1, Bool.false_eq_true, Bool.true_eq_false, reduceCtorEq, if_true, if_false, or_false, false_or, or_true, true_or, and_true, true_and, and_false, false_and, not_true_eq_false, not_false_eq_true, or_self, ← Int32.not_le, frT, isCT, isST, isPT, isZT, shiT]; rfl) | (rw [claimT_eq hc8 hK hF (by assumption) (by assumption) (by assumption)]; rfl)) (hW)⟩
  · obtain ⟨c, rfl, hcC⟩ := hI.oCT q1
    have hc8 : c < 8 := by omega
    refine aw_ilo 2 (pcn := 9) rfl dX7_claim_8 rfl rfl ?_
    refine aw_iconst (v := nI 0) (pcn := 10) dX7_claim_9 rfl (by decide) ?_
    refine aw_iconst (v := nI 2) (pcn := 11) dX7_claim_10 rfl (by decide) ?_
    refine aw_Si (pcn := 14) (r_isIn _ _ _) mf_X7_isIn mv_X7_isIn ml_X7_64 rfl (by decide) (by decide) (by decide) (by exact Nat.le_of_ble_eq_true rfl) rfl dX7_claim_11 rfl (fun r h2 hq => ?_)
    obtain ⟨rfl, hq⟩ := hq
    obtain rfl := hq.symm
    refine aw_if_eqB (t := 24) (pcn := 17) dX7_claim_14 rfl (by decide) (fun q2 => ?_) (fun q2 => ?_)
    · refine aw_iconst (v := -1) (pcn := 25) dX7_claim_24 rfl (by decide) ?_
      exact aw_iret dX7_claim_25 rfl ⟨_, rfl, ret2 (by first | (simp only [claimT, q1, q2, Bool.false_eq_true, Bool.true_eq_false, reduceCtorEq, if_true, if_false, or_false, false_or, or_true, true_or, and_true, true_and, and_false, false_and, not_true_eq_false, not_false_eq_true, or_self, ← Int32.not_le, frT, isCT, isST, isPT, isZT, shiT]; done) | (rw [claimT_eq hc8 hK hF (by assumption) (by assumption) (by assumption)]; simp only [q1, q2, Bool.false_eq_true, Bool.true_eq_false, reduceCtorEq, if_true, if_false, or_false, false_or, or_true, true_or, and_true, true_and, and_false, false_and, not_true_eq_false, not_false_eq_true, or_self, ← Int32.not_le, frT, isCT, isST, isPT, isZT, shiT]; done) | (rw [claimT_eq hc8 hK hF (by assumption) (by assumption) (by assumption)]; simp only [q1, q2, Bool.false_eq_true, Bool.true_eq_false, reduceCtorEq, if_true, if_false, or_false, false_or, or_true, true_or, and_true, true_and, and_false, false_and, not_true_eq_false, not_false_eq_true, or_self, ← Int32.not_le, frT, isCT, isST, isPT, isZT, shiT]; rfl) | (rw [claimT_eq hc8 hK hF (by assumption) (by assumption) (by assumption)]; rfl)) (hW)⟩
    · obtain ⟨K, hK', rfl⟩ := inR_nI (by decide) q2
      have hK : K < 3 := by omega
      refine aw_ilo 3 (pcn := 18) rfl dX7_claim_17 rfl rfl ?_
      refine aw_Si (pcn := 21) (r_isParty _) mf_X7_isParty mv_X7_isParty ml_X7_75 rfl (by decide) (by decide) (by decide) (by exact Nat.le_of_ble_eq_true rfl) rfl dX7_claim_18 rfl (fun r h2 hq => ?_)
      obtain ⟨rfl, hq⟩ := hq
      obtain rfl := hq.symm
      refine aw_if_neB (t := 26) (pcn := 24) dX7_claim_21 rfl (by decide) (fun q3 => ?_) (fun q3 => ?_)
      · obtain ⟨F, hF, rfl⟩ := isPT_nI q3
        refine aw_alo 0 (pcn := 27) rfl dX7_claim_26 rfl rfl (rf_some _) ?_
        refine aw_getf (pcn := 30) fl_X7_25 dX7_claim_27 rfl hW.mo rfl ?_
        refine aw_ilo 1 (pcn := 31) rfl dX7_claim_30 rfl rfl ?_
        refine aw_ialdM (j := 9) (pcn := 32) hW dX7_claim_31 rfl (show _ < 8 by omega) ?_
        refine aw_iconst (v := nI 3) (pcn := 33) dX7_claim_32 rfl (by decide) ?_
        refine aw_icmp_eq (t := 39) (pcn := 36) dX7_claim_33 rfl (by decide) (fun q4 => ?_) (fun q4 => ?_)
        · have hbn := hI.byn hcC
          have hn1 : ¬ Tr 9 c = nI 1 := by rw [q4]; decide
          have hz := (hI.lkZ hbn hK).ix (by decide)
          refine aw_alo 0 (pcn := 40) rfl dX7_claim_39 rfl rfl (rf_some _) ?_
          refine aw_ilo 1 (pcn := 41) rfl dX7_claim_40 rfl rfl ?_
          refine aw_ilo 2 (pcn := 42) rfl dX7_claim_41 rfl rfl ?_
          refine aw_ilo 3 (pcn := 43) rfl dX7_claim_42 rfl rfl ?_
          refine aw_Vi (pcn := 46) (r_canClaim hW (c := c) (b := ix (Tr 10 c)) (K := K) (P0 := F) (Z := ix (Tr 19 (35 * ix (Tr 10 c) + 16 + 5 * K + 3))) hc8 (hI.by_ hcC hn1) (by omega) hK (fun _ => hz)) mf_X7_canClaim mv_X7_canClaim hW.mo rfl ml_X7_124 rfl (by decide) (by decide) (by decide) (by exact Nat.le_of_ble_eq_true rfl) rfl dX7_claim_43 rfl (fun r h2 hq => ?_)
          obtain ⟨rfl, hq⟩ := hq
          obtain rfl := hq.symm
          refine aw_if_eqB (t := 59) (pcn := 49) dX7_claim_46 rfl (by decide) (fun q5 => ?_) (fun q5 => ?_)
          · refine aw_bipush (v := -4) (pcn := 61) dX7_claim_59 rfl (by decide) ?_
            exact aw_iret dX7_claim_61 rfl ⟨_, rfl, ret2 (by first | (simp only [claimT, q1, q2, q3, q4, q5, Bool.false_eq_true, Bool.true_eq_false, reduceCtorEq, if_true, if_false, or_false, false_or, or_true, true_or, and_true, true_and, and_false, false_and, not_true_eq_false, not_false_eq_true, or_self, ← Int32.not_le, frT, isCT, isST, isPT, isZT, shiT]; done) | (rw [claimT_eq hc8 hK hF (by assumption) (by assumption) (by assumption)]; simp only [q1, q2, q3, q4, q5, Bool.false_eq_true, Bool.true_eq_false, reduceCtorEq, if_true, if_false, or_false, false_or, or_true, true_or, and_true, true_and, and_false, false_and, not_true_eq_false, not_false_eq_true, or_self, ← Int32.not_le, frT, isCT, isST, isPT, isZT, shiT]; done) | (rw [claimT_eq hc8 hK hF (by assumption) (by assumption) (by assumption)]; simp only [q1, q2, q3, q4, q5, Bool.false_eq_true, Bool.true_eq_false, reduceCtorEq, if_true, if_false, or_false, false_or, or_true, true_or, and_true, true_and, and_false, false_and, not_true_eq_false, not_false_eq_true, or_self, ← Int32.not_le, frT, isCT, isST, isPT, isZT, shiT]; rfl) | (rw [claimT_eq hc8 hK hF (by assumption) (by assumption) (by assumption)]; rfl)) (hW)⟩
          · refine aw_alo 0 (pcn := 50) rfl dX7_claim_49 rfl rfl (rf_some _) ?_
            refine aw_ilo 1 (pcn := 51) rfl dX7_claim_50 rfl rfl ?_
            refine aw_ilo 2 (pcn := 52) rfl dX7_claim_51 rfl rfl ?_
            refine aw_ilo 3 (pcn := 53) rfl dX7_claim_52 rfl rfl ?_
            refine aw_Vi (pcn := 56) (r_claims hW (c := c) (b := ix (Tr 10 c)) (K := K) (P0 := F) (Z := ix (Tr 19 (35 * ix (Tr 10 c) + 16 + 5 * K + 3))) hc8 (hI.by_ hcC hn1) (by omega) hK hF hz.1 hz.2) mf_X7_claims mv_X7_claims hW.mo rfl ml_X7_127 rfl (by decide) (by decide) (by decide) (by exact Nat.le_of_ble_eq_true rfl) rfl dX7_claim_53 rfl (fun r h hq => ?_)
            obtain ⟨rfl, hW⟩ := hq
            refine aw_goto (t := 61) dX7_claim_56 (by decide) ?_
            exact aw_iret dX7_claim_61 rfl ⟨_, rfl, ret2 (by first | (simp only [claimT, q1, q2, q3, q4, q5, Bool.false_eq_true, Bool.true_eq_false, reduceCtorEq, if_true, if_false, or_false, false_or, or_true, true_or, and_true, true_and, and_false, false_and, not_true_eq_false, not_false_eq_true, or_self, ← Int32.not_le, frT, isCT, isST, isPT, isZT, shiT]; done) | (rw [claimT_eq hc8 hK hF (by assumption) (by assumption) (by assumption)]; simp only [q1, q2, q3, q4, q5, Bool.false_eq_true, Bool.true_eq_false, reduceCtorEq, if_true, if_false, or_false, false_or, or_true, true_or, and_true, true_and, and_false, false_and, not_true_eq_false, not_false_eq_true, or_self, ← Int32.not_le, frT, isCT, isST, isPT, isZT, shiT]; done) | (rw [claimT_eq hc8 hK hF (by assumption) (by assumption) (by assumption)]; simp only [q1, q2, q3, q4, q5, Bool.false_eq_true, Bool.true_eq_false, reduceCtorEq, if_true, if_false, or_false, false_or, or_true, true_or, and_true, true_and, and_false, false_and, not_true_eq_false, not_false_eq_true, or_self, ← Int32.not_le, frT, isCT, isST, isPT, isZT, shiT]; rfl) | (rw [claimT_eq hc8 hK hF (by assumption) (by assumption) (by assumption)]; rfl)) (hW)⟩
        · refine aw_bipush (v := -2) (pcn := 38) dX7_claim_36 rfl (by decide) ?_
          exact aw_iret dX7_claim_38 rfl ⟨_, rfl, ret2 (by first | (simp only [claimT, q1, q2, q3, q4, Bool.false_eq_true, Bool.true_eq_false, reduceCtorEq, if_true, if_false, or_false, false_or, or_true, true_or, and_true, true_and, and_false, false_and, not_true_eq_false, not_false_eq_true, or_self, ← Int32.not_le, frT, isCT, isST, isPT, isZT, shiT]; done) | (rw [claimT_eq hc8 hK hF (by assumption) (by assumption) (by assumption)]; simp only [q1, q2, q3, q4, Bool.false_eq_true, Bool.true_eq_false, reduceCtorEq, if_true, if_false, or_false, false_or, or_true, true_or, and_true, true_and, and_false, false_and, not_true_eq_false, not_false_eq_true, or_self, ← Int32.not_le, frT, isCT, isST, isPT, isZT, shiT]; done) | (rw [claimT_eq hc8 hK hF (by assumption) (by assumption) (by assumption)]; simp only [q1, q2, q3, q4, Bool.false_eq_true, Bool.true_eq_false, reduceCtorEq, if_true, if_false, or_false, false_or, or_true, true_or, and_true, true_and, and_false, false_and, not_true_eq_false, not_false_eq_true, or_self, ← Int32.not_le, frT, isCT, isST, isPT, isZT, shiT]; rfl) | (rw [claimT_eq hc8 hK hF (by assumption) (by assumption) (by assumption)]; rfl)) (hW)⟩
      · refine aw_iconst (v := -1) (pcn := 25) dX7_claim_24 rfl (by decide) ?_
        exact aw_iret dX7_claim_25 rfl ⟨_, rfl, ret2 (by first | (simp only [claimT, q1, q2, q3, Bool.false_eq_true, Bool.true_eq_false, reduceCtorEq, if_true, if_false, or_false, false_or, or_true, true_or, and_true, true_and, and_false, false_and, not_true_eq_false, not_false_eq_true, or_self, ← Int32.not_le, frT, isCT, isST, isPT, isZT, shiT]; done) | (rw [claimT_eq hc8 hK hF (by assumption) (by assumption) (by assumption)]; simp only [q1, q2, q3, Bool.false_eq_true, Bool.true_eq_false, reduceCtorEq, if_true, if_false, or_false, false_or, or_true, true_or, and_true, true_and, and_false, false_and, not_true_eq_false, not_false_eq_true, or_self, ← Int32.not_le, frT, isCT, isST, isPT, isZT, shiT]; done) | (rw [claimT_eq hc8 hK hF (by assumption) (by assumption) (by assumption)]; simp only [q1, q2, q3, Bool.false_eq_true, Bool.true_eq_false, reduceCtorEq, if_true, if_false, or_false, false_or, or_true, true_or, and_true, true_and, and_false, false_and, not_true_eq_false, not_false_eq_true, or_self, ← Int32.not_le, frT, isCT, isST, isPT, isZT, shiT]; rfl) | (rw [claimT_eq hc8 hK hF (by assumption) (by assumption) (by assumption)]; rfl)) (hW)⟩

set_option maxHeartbeats 8000000 in
set_option maxRecDepth 20000 in
theorem r_a_step {X : XG} {l : Launch} {Γ : NM} {ow : Nat → Nat × Nat} {h : Hp} {T Tr : TB} {nh : Nat} (hW : WD Γ ow h T Tr nh) {i C n Z hN : Nat} (hI : Iv i Tr C n Z hN) (k p t : Int32) : AM X l yX7_step cX7_step 4 (some .int) 2 0 0 [.ref (Γ 14 0), .int k, .int p, .int t] h (qi fun r h' => r = (stepT Tr k p t).1 ∧ WD Γ ow h' T (stepT Tr k p t).2 nh) := by
  refine AM.of (by decide +kernel) (by simp [Value.category]) (Nat.le_of_ble_eq_true rfl) ?_
  show AW X l cX7_step RX7 "step" (some .int) 4 2 none _ 0 0 0 [some (.ref (Γ 14 0)), some (.int k), some (.int p), some (.int t)] [] h
  have h64 := hI.n64
  have h8 := hI.C8
  have h16 := hI.Z16
  have h4 := hI.h4
  refine aw_alo 0 (pcn := 1) rfl dX7_step_0 rfl rfl (rf_some _) ?_
  refine aw_ilo 1 (pcn := 2) rfl dX7_step_1 rfl rfl ?_
  refine aw_Vi (pcn := 5) (r_isChannel hW _) mf_X7_isChannel mv_X7_isChannel hW.mo rfl ml_X7_149 rfl (by decide) (by decide) (by decide) (by exact Nat.le_of_ble_eq_true rfl) rfl dX7_step_2 rfl (fun r h2 hq => ?_)
  obtain ⟨rfl, hq⟩ := hq
  obtain rfl := hq.symm
  refine aw_if_eqB (t := 15) (pcn := 8) dX7_step_5 rfl (by decide) (fun q1 => ?_) (fun q1 => ?_)
  · refine aw_iconst (v := -1) (pcn := 16) dX7_step_15 rfl (by decide) ?_
    exact aw_iret dX7_step_16 rfl ⟨_, rfl, ret2 (by first | (simp only [stepT, q1, Bool.false_eq_true, Bool.true_eq_false, reduceCtorEq, if_true, if_false, or_false, false_or, or_true, true_or, and_true, true_and, and_false, false_and, not_true_eq_false, not_false_eq_true, or_self, ← Int32.not_le, frT, isCT, isST, isPT, isZT, shiT]; done) | (rw [stepT_eq hc8 (by assumption) (by assumption)]; simp only [q1, Bool.false_eq_true, Bool.true_eq_false, reduceCtorEq, if_true, if_false, or_false, false_or, or_true, true_or, and_true, true_and, and_false, false_and, not_true_eq_false, not_false_eq_true, or_self, ← Int32.not_le, frT, isCT, isST, isPT, isZT, shiT]; done) | (rw [stepT_eq hc8 (by assumption) (by assumption)]; simp only [q1, Bool.false_eq_true, Bool.true_eq_false, reduceCtorEq, if_true, if_false, or_false, false_or, or_true, true_or, and_true, true_and, and_false, false_and, not_true_eq_false, not_false_eq_true, or_self, ← Int32.not_le, frT, isCT, isST, isPT, isZT, shiT]; rfl) | (rw [stepT_eq hc8 (by assumption) (by assumption)]; rfl)) (hW)⟩
  · obtain ⟨c, rfl, hcC⟩ := hI.oCT q1
    have hc8 : c < 8 := by omega
    refine aw_ilo 2 (pcn := 9) rfl dX7_step_8 rfl rfl ?_
    refine aw_Si (pcn := 12) (r_isParty _) mf_X7_isParty mv_X7_isParty ml_X7_75 rfl (by decide) (by decide) (by decide) (by exact Nat.le_of_ble_eq_true rfl) rfl dX7_step_9 rfl (fun r h2 hq => ?_)
    obtain ⟨rfl, hq⟩ := hq
    obtain rfl := hq.symm
    refine aw_if_neB (t := 17) (pcn := 15) dX7_step_12 rfl (by decide) (fun q2 => ?_) (fun q2 => ?_)
    · obtain ⟨F, hF, rfl⟩ := isPT_nI q2
      refine aw_alo 0 (pcn := 18) rfl dX7_step_17 rfl rfl (rf_some _) ?_
      refine aw_getf (pcn := 21) fl_X7_37 dX7_step_18 rfl hW.mo rfl ?_
      refine aw_ilo 1 (pcn := 22) rfl dX7_step_21 rfl rfl ?_
      refine aw_ialdM (j := 13) (pcn := 23) hW dX7_step_22 rfl (show _ < 8 by omega) ?_
      refine aw_if_ne (t := 29) (pcn := 26) dX7_step_23 rfl (by decide) (fun q3 => ?_) (fun q3 => ?_)
      · refine aw_ilo 3 (pcn := 30) rfl dX7_step_29 rfl rfl ?_
        refine aw_iconst (v := nI 1) (pcn := 31) dX7_step_30 rfl (by decide) ?_
        refine aw_iconst (v := nI 3) (pcn := 32) dX7_step_31 rfl (by decide) ?_
        refine aw_Si (pcn := 35) (r_isIn _ _ _) mf_X7_isIn mv_X7_isIn ml_X7_64 rfl (by decide) (by decide) (by decide) (by exact Nat.le_of_ble_eq_true rfl) rfl dX7_step_32 rfl (fun r h2 hq => ?_)
        obtain ⟨rfl, hq⟩ := hq
        obtain rfl := hq.symm
        refine aw_if_neB (t := 41) (pcn := 38) dX7_step_35 rfl (by decide) (fun q4 => ?_) (fun q4 => ?_)
        · refine aw_alo 0 (pcn := 42) rfl dX7_step_41 rfl rfl (rf_some _) ?_
          refine aw_getf (pcn := 45) fl_X7_43 dX7_step_42 rfl hW.mo rfl ?_
          refine aw_ilo 1 (pcn := 46) rfl dX7_step_45 rfl rfl ?_
          refine aw_ialdM (j := 15) (pcn := 47) hW dX7_step_46 rfl (show _ < 8 by omega) ?_
          refine aw_ilo 2 (pcn := 48) rfl dX7_step_47 rfl rfl ?_
          refine aw_icmp_ne (t := 61) (pcn := 51) dX7_step_48 rfl (by decide) (fun q5 => ?_) (fun q5 => ?_)
          · refine aw_bipush (v := -4) (pcn := 63) dX7_step_61 rfl (by decide) ?_
            refine aw_goto (t := 72) dX7_step_63 (by decide) ?_
            exact aw_iret dX7_step_72 rfl ⟨_, rfl, ret2 (by first | (simp only [stepT, q1, q2, q3, q4, q5, Bool.false_eq_true, Bool.true_eq_false, reduceCtorEq, if_true, if_false, or_false, false_or, or_true, true_or, and_true, true_and, and_false, false_and, not_true_eq_false, not_false_eq_true, or_self, ← Int32.not_le, frT, isCT, isST, isPT, isZT, shiT]; done) | (rw [stepT_eq hc8 (by assumption) (by assumption)]; simp only [q1, q2, q3, q4, q5, Bool.false_eq_true, Bool.true_eq_false, reduceCtorEq, if_true, if_false, or_false, false_or, or_true, true_or, and_true, true_and, and_false, false_and, not_true_eq_false, not_false_eq_true, or_self, ← Int32.not_le, frT, isCT, isST, isPT, isZT, shiT]; done) | (rw [stepT_eq hc8 (by assumption) (by assumption)]; simp only [q1, q2, q3, q4, q5, Bool.false_eq_true, Bool.true_eq_false, reduceCtorEq, if_true, if_false, or_false, false_or, or_true, true_or, and_true, true_and, and_false, false_and, not_true_eq_false, not_false_eq_true, or_self, ← Int32.not_le, frT, isCT, isST, isPT, isZT, shiT]; rfl) | (rw [stepT_eq hc8 (by assumption) (by assumption)]; rfl)) (hW)⟩
          · refine aw_alo 0 (pcn := 52) rfl dX7_step_51 rfl rfl (rf_some _) ?_
            refine aw_getf (pcn := 55) fl_X7_40 dX7_step_52 rfl hW.mo rfl ?_
            refine aw_ilo 1 (pcn := 56) rfl dX7_step_55 rfl rfl ?_
            refine aw_ialdM (j := 14) (pcn := 57) hW dX7_step_56 rfl (show _ < 8 by omega) ?_
            refine aw_ilo 3 (pcn := 58) rfl dX7_step_57 rfl rfl ?_
            refine aw_icmp_ge (t := 66) (pcn := 61) dX7_step_58 rfl (by decide) (fun q6 => ?_) (fun q6 => ?_)
            · refine aw_alo 0 (pcn := 67) rfl dX7_step_66 rfl rfl (rf_some _) ?_
              refine aw_ilo 1 (pcn := 68) rfl dX7_step_67 rfl rfl ?_
              refine aw_ilo 3 (pcn := 69) rfl dX7_step_68 rfl rfl ?_
              refine aw_Vi (pcn := 72) (r_steps hW (c := c) (P0 := F) hc8 (by assumption) hF t) mf_X7_steps mv_X7_steps hW.mo rfl ml_X7_131 rfl (by decide) (by decide) (by decide) (by exact Nat.le_of_ble_eq_true rfl) rfl dX7_step_69 rfl (fun r h hq => ?_)
              obtain ⟨rfl, hW⟩ := hq
              exact aw_iret dX7_step_72 rfl ⟨_, rfl, ret2 (by first | (simp only [stepT, q1, q2, q3, q4, q5, q6, Bool.false_eq_true, Bool.true_eq_false, reduceCtorEq, if_true, if_false, or_false, false_or, or_true, true_or, and_true, true_and, and_false, false_and, not_true_eq_false, not_false_eq_true, or_self, ← Int32.not_le, frT, isCT, isST, isPT, isZT, shiT]; done) | (rw [stepT_eq hc8 (by assumption) (by assumption)]; simp only [q1, q2, q3, q4, q5, q6, Bool.false_eq_true, Bool.true_eq_false, reduceCtorEq, if_true, if_false, or_false, false_or, or_true, true_or, and_true, true_and, and_false, false_and, not_true_eq_false, not_false_eq_true, or_self, ← Int32.not_le, frT, isCT, isST, isPT, isZT, shiT]; done) | (rw [stepT_eq hc8 (by assumption) (by assumption)]; simp only [q1, q2, q3, q4, q5, q6, Bool.false_eq_true, Bool.true_eq_false, reduceCtorEq, if_true, if_false, or_false, false_or, or_true, true_or, and_true, true_and, and_false, false_and, not_true_eq_false, not_false_eq_true, or_self, ← Int32.not_le, frT, isCT, isST, isPT, isZT, shiT]; rfl) | (rw [stepT_eq hc8 (by assumption) (by assumption)]; rfl)) (hW)⟩
            · refine aw_bipush (v := -4) (pcn := 63) dX7_step_61 rfl (by decide) ?_
              refine aw_goto (t := 72) dX7_step_63 (by decide) ?_
              exact aw_iret dX7_step_72 rfl ⟨_, rfl, ret2 (by first | (simp only [stepT, q1, q2, q3, q4, q5, q6, Bool.false_eq_true, Bool.true_eq_false, reduceCtorEq, if_true, if_false, or_false, false_or, or_true, true_or, and_true, true_and, and_false, false_and, not_true_eq_false, not_false_eq_true, or_self, ← Int32.not_le, frT, isCT, isST, isPT, isZT, shiT]; done) | (rw [stepT_eq hc8 (by assumption) (by assumption)]; simp only [q1, q2, q3, q4, q5, q6, Bool.false_eq_true, Bool.true_eq_false, reduceCtorEq, if_true, if_false, or_false, false_or, or_true, true_or, and_true, true_and, and_false, false_and, not_true_eq_false, not_false_eq_true, or_self, ← Int32.not_le, frT, isCT, isST, isPT, isZT, shiT]; done) | (rw [stepT_eq hc8 (by assumption) (by assumption)]; simp only [q1, q2, q3, q4, q5, q6, Bool.false_eq_true, Bool.true_eq_false, reduceCtorEq, if_true, if_false, or_false, false_or, or_true, true_or, and_true, true_and, and_false, false_and, not_true_eq_false, not_false_eq_true, or_self, ← Int32.not_le, frT, isCT, isST, isPT, isZT, shiT]; rfl) | (rw [stepT_eq hc8 (by assumption) (by assumption)]; rfl)) (hW)⟩
        · refine aw_bipush (v := -3) (pcn := 40) dX7_step_38 rfl (by decide) ?_
          exact aw_iret dX7_step_40 rfl ⟨_, rfl, ret2 (by first | (simp only [stepT, q1, q2, q3, q4, Bool.false_eq_true, Bool.true_eq_false, reduceCtorEq, if_true, if_false, or_false, false_or, or_true, true_or, and_true, true_and, and_false, false_and, not_true_eq_false, not_false_eq_true, or_self, ← Int32.not_le, frT, isCT, isST, isPT, isZT, shiT]; done) | (rw [stepT_eq hc8 (by assumption) (by assumption)]; simp only [q1, q2, q3, q4, Bool.false_eq_true, Bool.true_eq_false, reduceCtorEq, if_true, if_false, or_false, false_or, or_true, true_or, and_true, true_and, and_false, false_and, not_true_eq_false, not_false_eq_true, or_self, ← Int32.not_le, frT, isCT, isST, isPT, isZT, shiT]; done) | (rw [stepT_eq hc8 (by assumption) (by assumption)]; simp only [q1, q2, q3, q4, Bool.false_eq_true, Bool.true_eq_false, reduceCtorEq, if_true, if_false, or_false, false_or, or_true, true_or, and_true, true_and, and_false, false_and, not_true_eq_false, not_false_eq_true, or_self, ← Int32.not_le, frT, isCT, isST, isPT, isZT, shiT]; rfl) | (rw [stepT_eq hc8 (by assumption) (by assumption)]; rfl)) (hW)⟩
      · refine aw_bipush (v := -2) (pcn := 28) dX7_step_26 rfl (by decide) ?_
        exact aw_iret dX7_step_28 rfl ⟨_, rfl, ret2 (by first | (simp only [stepT, q1, q2, q3, Bool.false_eq_true, Bool.true_eq_false, reduceCtorEq, if_true, if_false, or_false, false_or, or_true, true_or, and_true, true_and, and_false, false_and, not_true_eq_false, not_false_eq_true, or_self, ← Int32.not_le, frT, isCT, isST, isPT, isZT, shiT]; done) | (rw [stepT_eq hc8 (by assumption) (by assumption)]; simp only [q1, q2, q3, Bool.false_eq_true, Bool.true_eq_false, reduceCtorEq, if_true, if_false, or_false, false_or, or_true, true_or, and_true, true_and, and_false, false_and, not_true_eq_false, not_false_eq_true, or_self, ← Int32.not_le, frT, isCT, isST, isPT, isZT, shiT]; done) | (rw [stepT_eq hc8 (by assumption) (by assumption)]; simp only [q1, q2, q3, Bool.false_eq_true, Bool.true_eq_false, reduceCtorEq, if_true, if_false, or_false, false_or, or_true, true_or, and_true, true_and, and_false, false_and, not_true_eq_false, not_false_eq_true, or_self, ← Int32.not_le, frT, isCT, isST, isPT, isZT, shiT]; rfl) | (rw [stepT_eq hc8 (by assumption) (by assumption)]; rfl)) (hW)⟩
    · refine aw_iconst (v := -1) (pcn := 16) dX7_step_15 rfl (by decide) ?_
      exact aw_iret dX7_step_16 rfl ⟨_, rfl, ret2 (by first | (simp only [stepT, q1, q2, Bool.false_eq_true, Bool.true_eq_false, reduceCtorEq, if_true, if_false, or_false, false_or, or_true, true_or, and_true, true_and, and_false, false_and, not_true_eq_false, not_false_eq_true, or_self, ← Int32.not_le, frT, isCT, isST, isPT, isZT, shiT]; done) | (rw [stepT_eq hc8 (by assumption) (by assumption)]; simp only [q1, q2, Bool.false_eq_true, Bool.true_eq_false, reduceCtorEq, if_true, if_false, or_false, false_or, or_true, true_or, and_true, true_and, and_false, false_and, not_true_eq_false, not_false_eq_true, or_self, ← Int32.not_le, frT, isCT, isST, isPT, isZT, shiT]; done) | (rw [stepT_eq hc8 (by assumption) (by assumption)]; simp only [q1, q2, Bool.false_eq_true, Bool.true_eq_false, reduceCtorEq, if_true, if_false, or_false, false_or, or_true, true_or, and_true, true_and, and_false, false_and, not_true_eq_false, not_false_eq_true, or_self, ← Int32.not_le, frT, isCT, isST, isPT, isZT, shiT]; rfl) | (rw [stepT_eq hc8 (by assumption) (by assumption)]; rfl)) (hW)⟩

set_option maxHeartbeats 8000000 in
set_option maxRecDepth 20000 in
theorem r_a_watch {X : XG} {l : Launch} {Γ : NM} {ow : Nat → Nat × Nat} {h : Hp} {T Tr : TB} {nh : Nat} (hW : WD Γ ow h T Tr nh) {i C n Z hN : Nat} (hI : Iv i Tr C n Z hN) (p on : Int32) (hon : on = nI 0 ∨ on = nI 1) : AM X l yX7_watch cX7_watch 4 (some .int) 2 0 0 [.ref (Γ 14 0), .int p, .int on] h (qi fun r h' => r = (watchT Tr p on).1 ∧ WD Γ ow h' T (watchT Tr p on).2 nh) := by
  refine AM.of (by decide +kernel) (by simp [Value.category]) (Nat.le_of_ble_eq_true rfl) ?_
  show AW X l cX7_watch RX7 "watch" (some .int) 4 2 none _ 0 0 0 [some (.ref (Γ 14 0)), some (.int p), some (.int on), none] [] h
  have h64 := hI.n64
  have h8 := hI.C8
  have h16 := hI.Z16
  have h4 := hI.h4
  refine aw_ilo 1 (pcn := 1) rfl dX7_watch_0 rfl rfl ?_
  refine aw_Si (pcn := 4) (r_isParty _) mf_X7_isParty mv_X7_isParty ml_X7_75 rfl (by decide) (by decide) (by decide) (by exact Nat.le_of_ble_eq_true rfl) rfl dX7_watch_1 rfl (fun r h2 hq => ?_)
  obtain ⟨rfl, hq⟩ := hq
  obtain rfl := hq.symm
  refine aw_if_neB (t := 9) (pcn := 7) dX7_watch_4 rfl (by decide) (fun q1 => ?_) (fun q1 => ?_)
  · obtain ⟨F, hF, rfl⟩ := isPT_nI q1
    refine aw_alo 0 (pcn := 10) rfl dX7_watch_9 rfl rfl (rf_some _) ?_
    refine aw_getf (pcn := 13) fl_X7_137 dX7_watch_10 rfl hW.mo rfl ?_
    refine aw_ilo 1 (pcn := 14) rfl dX7_watch_13 rfl rfl ?_
    refine aw_ishr (pcn := 15) dX7_watch_14 rfl ?_
    refine aw_iconst (v := nI 1) (pcn := 16) dX7_watch_15 rfl (by decide) ?_
    refine aw_iand (pcn := 17) dX7_watch_16 rfl ?_
    refine aw_ist 3 (pcn := 18) rfl dX7_watch_17 rfl (by decide) ?_
    dsimp only [List.set_cons_zero, List.set_cons_succ]
    rcases hon with rfl | rfl
    · refine aw_ilo 2 (pcn := 19) rfl dX7_watch_18 rfl rfl ?_
      refine aw_ilo 3 (pcn := 20) rfl dX7_watch_19 rfl rfl ?_
      refine aw_iconst (v := nI 1) (pcn := 21) dX7_watch_20 rfl (by decide) ?_
      refine aw_icmp_ne (t := 28) (pcn := 24) dX7_watch_21 rfl (by decide) (fun q2 => ?_) (fun q2 => ?_)
      · refine aw_iconst (v := nI 0) (pcn := 29) dX7_watch_28 rfl (by decide) ?_
        refine aw_icmp_eq (t := 55) (pcn := 32) dX7_watch_29 rfl (by decide) (fun q3 => ?_) (fun q3 => absurd (by decide) q3)
        refine aw_ilo 3 (pcn := 56) rfl dX7_watch_55 rfl rfl ?_
        exact aw_iret dX7_watch_56 rfl ⟨_, rfl, ret2 (by rw [watchT_eq hF (by assumption)]; unfold wchV; first | (rw [if_pos (show nI 0 = 0 by decide), if_pos (show bitT (Tr 1 0) F = nI 1 from q2)]; rfl) | (rw [if_pos (show nI 0 = 0 by decide), if_neg (show ¬ bitT (Tr 1 0) F = nI 1 from q2), up_same]; rfl) | (rw [if_neg (show ¬ nI 1 = 0 by decide), if_pos (show bitT (Tr 1 0) F = nI 1 from q2), up_same]; rfl) | (rw [if_neg (show ¬ nI 1 = 0 by decide), if_neg (show ¬ bitT (Tr 1 0) F = nI 1 from q2)]; rfl)) hW⟩
      · refine aw_iconst (v := nI 1) (pcn := 25) dX7_watch_24 rfl (by decide) ?_
        refine aw_goto (t := 29) dX7_watch_25 (by decide) ?_
        refine aw_icmp_eq (t := 55) (pcn := 32) dX7_watch_29 rfl (by decide) (fun q4 => absurd q4 (by decide)) (fun q4 => ?_)
        refine aw_alo 0 (pcn := 33) rfl dX7_watch_32 rfl rfl (rf_some _) ?_
        refine aw_dup (pcn := 34) dX7_watch_33 rfl rfl ?_
        refine aw_getf (pcn := 37) fl_X7_137 dX7_watch_34 rfl hW.mo rfl ?_
        refine aw_ilo 2 (pcn := 38) rfl dX7_watch_37 rfl rfl ?_
        refine aw_if_eq (t := 47) (pcn := 41) dX7_watch_38 rfl (by decide) (fun q5 => ?_) (fun q5 => absurd (by decide) q5)
        refine aw_iconst (v := nI 1) (pcn := 48) dX7_watch_47 rfl (by decide) ?_
        refine aw_ilo 1 (pcn := 49) rfl dX7_watch_48 rfl rfl ?_
        refine aw_ishl (pcn := 50) dX7_watch_49 rfl ?_
        refine aw_ineg (pcn := 51) dX7_watch_50 rfl ?_
        refine aw_iadd (pcn := 52) dX7_watch_51 rfl ?_
        refine aw_putM (pcn := 55) hW fp_X7_137 rfl (ms_1 _ _ _) (by decide) dX7_watch_52 rfl (fun h hW => ?_)
        refine aw_ilo 3 (pcn := 56) rfl dX7_watch_55 rfl rfl ?_
        exact aw_iret dX7_watch_56 rfl ⟨_, rfl, ret2 (by rw [watchT_eq hF (by assumption)]; unfold wchV; first | (rw [if_pos (show nI 0 = 0 by decide), if_pos (show bitT (Tr 1 0) F = nI 1 from q2)]; rfl) | (rw [if_pos (show nI 0 = 0 by decide), if_neg (show ¬ bitT (Tr 1 0) F = nI 1 from q2), up_same]; rfl) | (rw [if_neg (show ¬ nI 1 = 0 by decide), if_pos (show bitT (Tr 1 0) F = nI 1 from q2), up_same]; rfl) | (rw [if_neg (show ¬ nI 1 = 0 by decide), if_neg (show ¬ bitT (Tr 1 0) F = nI 1 from q2)]; rfl)) hW⟩
    · refine aw_ilo 2 (pcn := 19) rfl dX7_watch_18 rfl rfl ?_
      refine aw_ilo 3 (pcn := 20) rfl dX7_watch_19 rfl rfl ?_
      refine aw_iconst (v := nI 1) (pcn := 21) dX7_watch_20 rfl (by decide) ?_
      refine aw_icmp_ne (t := 28) (pcn := 24) dX7_watch_21 rfl (by decide) (fun q6 => ?_) (fun q6 => ?_)
      · refine aw_iconst (v := nI 0) (pcn := 29) dX7_watch_28 rfl (by decide) ?_
        refine aw_icmp_eq (t := 55) (pcn := 32) dX7_watch_29 rfl (by decide) (fun q7 => absurd q7 (by decide)) (fun q7 => ?_)
        refine aw_alo 0 (pcn := 33) rfl dX7_watch_32 rfl rfl (rf_some _) ?_
        refine aw_dup (pcn := 34) dX7_watch_33 rfl rfl ?_
        refine aw_getf (pcn := 37) fl_X7_137 dX7_watch_34 rfl hW.mo rfl ?_
        refine aw_ilo 2 (pcn := 38) rfl dX7_watch_37 rfl rfl ?_
        refine aw_if_eq (t := 47) (pcn := 41) dX7_watch_38 rfl (by decide) (fun q8 => absurd q8 (by decide)) (fun q8 => ?_)
        refine aw_iconst (v := nI 1) (pcn := 42) dX7_watch_41 rfl (by decide) ?_
        refine aw_ilo 1 (pcn := 43) rfl dX7_watch_42 rfl rfl ?_
        refine aw_ishl (pcn := 44) dX7_watch_43 rfl ?_
        refine aw_goto (t := 51) dX7_watch_44 (by decide) ?_
        refine aw_iadd (pcn := 52) dX7_watch_51 rfl ?_
        refine aw_putM (pcn := 55) hW fp_X7_137 rfl (ms_1 _ _ _) (by decide) dX7_watch_52 rfl (fun h hW => ?_)
        refine aw_ilo 3 (pcn := 56) rfl dX7_watch_55 rfl rfl ?_
        exact aw_iret dX7_watch_56 rfl ⟨_, rfl, ret2 (by rw [watchT_eq hF (by assumption)]; unfold wchV; first | (rw [if_pos (show nI 0 = 0 by decide), if_pos (show bitT (Tr 1 0) F = nI 1 from q6)]; rfl) | (rw [if_pos (show nI 0 = 0 by decide), if_neg (show ¬ bitT (Tr 1 0) F = nI 1 from q6), up_same]; rfl) | (rw [if_neg (show ¬ nI 1 = 0 by decide), if_pos (show bitT (Tr 1 0) F = nI 1 from q6), up_same]; rfl) | (rw [if_neg (show ¬ nI 1 = 0 by decide), if_neg (show ¬ bitT (Tr 1 0) F = nI 1 from q6)]; rfl)) hW⟩
      · refine aw_iconst (v := nI 1) (pcn := 25) dX7_watch_24 rfl (by decide) ?_
        refine aw_goto (t := 29) dX7_watch_25 (by decide) ?_
        refine aw_icmp_eq (t := 55) (pcn := 32) dX7_watch_29 rfl (by decide) (fun q9 => ?_) (fun q9 => absurd (by decide) q9)
        refine aw_ilo 3 (pcn := 56) rfl dX7_watch_55 rfl rfl ?_
        exact aw_iret dX7_watch_56 rfl ⟨_, rfl, ret2 (by rw [watchT_eq hF (by assumption)]; unfold wchV; first | (rw [if_pos (show nI 0 = 0 by decide), if_pos (show bitT (Tr 1 0) F = nI 1 from q6)]; rfl) | (rw [if_pos (show nI 0 = 0 by decide), if_neg (show ¬ bitT (Tr 1 0) F = nI 1 from q6), up_same]; rfl) | (rw [if_neg (show ¬ nI 1 = 0 by decide), if_pos (show bitT (Tr 1 0) F = nI 1 from q6), up_same]; rfl) | (rw [if_neg (show ¬ nI 1 = 0 by decide), if_neg (show ¬ bitT (Tr 1 0) F = nI 1 from q6)]; rfl)) hW⟩
  · refine aw_iconst (v := -1) (pcn := 8) dX7_watch_7 rfl (by decide) ?_
    exact aw_iret dX7_watch_8 rfl ⟨_, rfl, ret2 (by first | (simp only [watchT, q1, Bool.false_eq_true, Bool.true_eq_false, reduceCtorEq, if_true, if_false, or_false, false_or, or_true, true_or, and_true, true_and, and_false, false_and, not_true_eq_false, not_false_eq_true, or_self, ← Int32.not_le, frT, isCT, isST, isPT, isZT, shiT]; done)) (hW)⟩

set_option maxHeartbeats 8000000 in
set_option maxRecDepth 20000 in
theorem r_a_account {X : XG} {l : Launch} {Γ : NM} {ow : Nat → Nat × Nat} {h : Hp} {T Tr : TB} {nh : Nat} (hW : WD Γ ow h T Tr nh) {i C n Z hN : Nat} (hI : Iv i Tr C n Z hN) (p : Int32) : AM X l yX7_account cX7_account 2 (some .int) 2 0 0 [.ref (Γ 14 0), .int p] h (qi fun r h' => r = accountT Tr p ∧ h' = h) := by
  refine AM.of (by decide +kernel) (by simp [Value.category]) (Nat.le_of_ble_eq_true rfl) ?_
  show AW X l cX7_account RX7 "account" (some .int) 2 2 none _ 0 0 0 [some (.ref (Γ 14 0)), some (.int p)] [] h
  have h64 := hI.n64
  have h8 := hI.C8
  have h16 := hI.Z16
  have h4 := hI.h4
  refine aw_ilo 1 (pcn := 1) rfl dX7_account_0 rfl rfl ?_
  refine aw_Si (pcn := 4) (r_isParty _) mf_X7_isParty mv_X7_isParty ml_X7_75 rfl (by decide) (by decide) (by decide) (by exact Nat.le_of_ble_eq_true rfl) rfl dX7_account_1 rfl (fun r h2 hq => ?_)
  obtain ⟨rfl, hq⟩ := hq
  obtain rfl := hq.symm
  refine aw_if_eqB (t := 16) (pcn := 7) dX7_account_4 rfl (by decide) (fun q1 => ?_) (fun q1 => ?_)
  · refine aw_iconst (v := -1) (pcn := 17) dX7_account_16 rfl (by decide) ?_
    exact aw_iret dX7_account_17 rfl ⟨_, rfl, ⟨by unfold accountT; first | (rw [if_pos (by assumption)]; done) | (rw [if_neg (by simp only [isPT] at *; simp [*]), ix_nI (by omega)]), rfl⟩⟩
  · obtain ⟨F, hF, rfl⟩ := isPT_nI q1
    refine aw_alo 0 (pcn := 8) rfl dX7_account_7 rfl rfl (rf_some _) ?_
    refine aw_getf (pcn := 11) fl_X7_7 dX7_account_8 rfl hW.mo rfl ?_
    refine aw_ilo 1 (pcn := 12) rfl dX7_account_11 rfl rfl ?_
    refine aw_ialdM (j := 0) (pcn := 13) hW dX7_account_12 rfl (show _ < 6 by omega) ?_
    refine aw_goto (t := 17) dX7_account_13 (by decide) ?_
    exact aw_iret dX7_account_17 rfl ⟨_, rfl, ⟨by unfold accountT; first | (rw [if_pos (by assumption)]; done) | (rw [if_neg (by simp only [isPT] at *; simp [*]), ix_nI (by omega)]), rfl⟩⟩


set_option maxHeartbeats 8000000 in
set_option maxRecDepth 20000 in
theorem r_a_told {X : XG} {l : Launch} {Γ : NM} {ow : Nat → Nat × Nat} {h : Hp} {T Tr : TB} {nh : Nat} (hW : WD Γ ow h T Tr nh) {i C n Z hN : Nat} (hI : Iv i Tr C n Z hN) (k w : Int32) : AM X l yX7_told cX7_told 4 (some .int) 4 0 0 [.ref (Γ 14 0), .int k, .int w] h (qi fun r h' => r = toldT Tr n k w ∧ h' = h) := by
  refine AM.of (by decide +kernel) (by simp [Value.category]) (Nat.le_of_ble_eq_true rfl) ?_
  show AW X l cX7_told RX7 "told" (some .int) 4 4 none _ 0 0 0 [some (.ref (Γ 14 0)), some (.int k), some (.int w), none] [] h
  have h64 := hI.n64
  have h8 := hI.C8
  have h16 := hI.Z16
  have h4 := hI.h4
  refine aw_alo 0 (pcn := 1) rfl dX7_told_0 rfl rfl (rf_some _) ?_
  refine aw_ilo 1 (pcn := 2) rfl dX7_told_1 rfl rfl ?_
  refine aw_Vi (pcn := 5) (r_isChannel hW _) mf_X7_isChannel mv_X7_isChannel hW.mo rfl ml_X7_149 rfl (by decide) (by decide) (by decide) (by exact Nat.le_of_ble_eq_true rfl) rfl dX7_told_2 rfl (fun r h2 hq => ?_)
  obtain ⟨rfl, hq⟩ := hq
  obtain rfl := hq.symm
  refine aw_if_neB (t := 10) (pcn := 8) dX7_told_5 rfl (by decide) (fun q1 => ?_) (fun q1 => ?_)
  · obtain ⟨c, rfl, hcC⟩ := hI.oCT q1
    have hc8 : c < 8 := by omega
    refine aw_alo 0 (pcn := 11) rfl dX7_told_10 rfl rfl (rf_some _) ?_
    refine aw_getf (pcn := 14) fl_X7_37 dX7_told_11 rfl hW.mo rfl ?_
    refine aw_ilo 1 (pcn := 15) rfl dX7_told_14 rfl rfl ?_
    refine aw_ialdM (j := 13) (pcn := 16) hW dX7_told_15 rfl (show _ < 8 by omega) ?_
    refine aw_if_le (t := 23) (pcn := 19) dX7_told_16 rfl (by decide) (fun q2 => ?_) (fun q2 => ?_)
    · refine aw_iconst (v := nI 0) (pcn := 24) dX7_told_23 rfl (by decide) ?_
      refine aw_ist 3 (pcn := 25) rfl dX7_told_24 rfl (by decide) ?_
      dsimp only [List.set_cons_zero, List.set_cons_succ]
      refine aw_ilo 2 (pcn := 26) rfl dX7_told_25 rfl rfl ?_
      rcases pk_ix w (n := 12) (by decide) with hsw | hsw | ⟨jj, hj, rfl⟩
      · refine aw_tsOut (t := 223) dX7_told_26 (Or.inl (ts_lo hsw)) (by decide) ?_
        refine aw_iconst (v := -1) (pcn := 224) dX7_told_223 rfl (by decide) ?_
        exact aw_iret dX7_told_224 rfl ⟨_, rfl, ⟨by rw [toldT_eq hc8 (by assumption), swI_lo hsw], rfl⟩⟩
      · refine aw_tsOut (t := 223) dX7_told_26 (Or.inr (ts_hi 12 (by decide) hsw)) (by decide) ?_
        refine aw_iconst (v := -1) (pcn := 224) dX7_told_223 rfl (by decide) ?_
        exact aw_iret dX7_told_224 rfl ⟨_, rfl, ⟨by rw [toldT_eq hc8 (by assumption), swI_hi hsw], rfl⟩⟩
      · rcases (show jj = 0 ∨ jj = 1 ∨ jj = 2 ∨ jj = 3 ∨ jj = 4 ∨ jj = 5 ∨ jj = 6 ∨ jj = 7 ∨ jj = 8 ∨ jj = 9 ∨ jj = 10 ∨ jj = 11 by omega) with rfl | rfl | rfl | rfl | rfl | rfl | rfl | rfl | rfl | rfl | rfl | rfl
        · refine aw_tsIn (off := 62) (t := 88) dX7_told_26 (by decide) (by decide) (by decide) (by decide) ?_
          refine aw_alo 0 (pcn := 89) rfl dX7_told_88 rfl rfl (rf_some _) ?_
          refine aw_getf (pcn := 92) fl_X7_25 dX7_told_89 rfl hW.mo rfl ?_
          refine aw_ilo 1 (pcn := 93) rfl dX7_told_92 rfl rfl ?_
          refine aw_ialdM (j := 9) (pcn := 94) hW dX7_told_93 rfl (show _ < 8 by omega) ?_
          exact aw_iret dX7_told_94 rfl ⟨_, rfl, ⟨by rw [toldT_eq hc8 (by assumption), swI_in (by decide) (by decide)]; simp only [toldV, q1, q2, Bool.false_eq_true, Bool.true_eq_false, reduceCtorEq, if_true, if_false, or_false, false_or, or_true, true_or, and_true, true_and, and_false, false_and, not_true_eq_false, not_false_eq_true, or_self, ← Int32.not_le, frT, isCT, isST, isPT, isZT, shiT]; try rfl, rfl⟩⟩
        · refine aw_tsIn (off := 69) (t := 95) dX7_told_26 (by decide) (by decide) (by decide) (by decide) ?_
          refine aw_alo 0 (pcn := 96) rfl dX7_told_95 rfl rfl (rf_some _) ?_
          refine aw_getf (pcn := 99) fl_X7_22 dX7_told_96 rfl hW.mo rfl ?_
          refine aw_ilo 1 (pcn := 100) rfl dX7_told_99 rfl rfl ?_
          refine aw_ialdM (j := 8) (pcn := 101) hW dX7_told_100 rfl (show _ < 8 by omega) ?_
          exact aw_iret dX7_told_101 rfl ⟨_, rfl, ⟨by rw [toldT_eq hc8 (by assumption), swI_in (by decide) (by decide)]; simp only [toldV, q1, q2, Bool.false_eq_true, Bool.true_eq_false, reduceCtorEq, if_true, if_false, or_false, false_or, or_true, true_or, and_true, true_and, and_false, false_and, not_true_eq_false, not_false_eq_true, or_self, ← Int32.not_le, frT, isCT, isST, isPT, isZT, shiT]; try rfl, rfl⟩⟩
        · refine aw_tsIn (off := 76) (t := 102) dX7_told_26 (by decide) (by decide) (by decide) (by decide) ?_
          refine aw_alo 0 (pcn := 103) rfl dX7_told_102 rfl rfl (rf_some _) ?_
          refine aw_getf (pcn := 106) fl_X7_19 dX7_told_103 rfl hW.mo rfl ?_
          refine aw_ilo 1 (pcn := 107) rfl dX7_told_106 rfl rfl ?_
          refine aw_ialdM (j := 7) (pcn := 108) hW dX7_told_107 rfl (show _ < 8 by omega) ?_
          exact aw_iret dX7_told_108 rfl ⟨_, rfl, ⟨by rw [toldT_eq hc8 (by assumption), swI_in (by decide) (by decide)]; simp only [toldV, q1, q2, Bool.false_eq_true, Bool.true_eq_false, reduceCtorEq, if_true, if_false, or_false, false_or, or_true, true_or, and_true, true_and, and_false, false_and, not_true_eq_false, not_false_eq_true, or_self, ← Int32.not_le, frT, isCT, isST, isPT, isZT, shiT]; try rfl, rfl⟩⟩
        · refine aw_tsIn (off := 83) (t := 109) dX7_told_26 (by decide) (by decide) (by decide) (by decide) ?_
          refine aw_alo 0 (pcn := 110) rfl dX7_told_109 rfl rfl (rf_some _) ?_
          refine aw_getf (pcn := 113) fl_X7_16 dX7_told_110 rfl hW.mo rfl ?_
          refine aw_ilo 1 (pcn := 114) rfl dX7_told_113 rfl rfl ?_
          refine aw_ialdM (j := 6) (pcn := 115) hW dX7_told_114 rfl (show _ < 8 by omega) ?_
          exact aw_iret dX7_told_115 rfl ⟨_, rfl, ⟨by rw [toldT_eq hc8 (by assumption), swI_in (by decide) (by decide)]; simp only [toldV, q1, q2, Bool.false_eq_true, Bool.true_eq_false, reduceCtorEq, if_true, if_false, or_false, false_or, or_true, true_or, and_true, true_and, and_false, false_and, not_true_eq_false, not_false_eq_true, or_self, ← Int32.not_le, frT, isCT, isST, isPT, isZT, shiT]; try rfl, rfl⟩⟩
        · refine aw_tsIn (off := 90) (t := 116) dX7_told_26 (by decide) (by decide) (by decide) (by decide) ?_
          refine aw_alo 0 (pcn := 117) rfl dX7_told_116 rfl rfl (rf_some _) ?_
          refine aw_getf (pcn := 120) fl_X7_25 dX7_told_117 rfl hW.mo rfl ?_
          refine aw_ilo 1 (pcn := 121) rfl dX7_told_120 rfl rfl ?_
          refine aw_ialdM (j := 9) (pcn := 122) hW dX7_told_121 rfl (show _ < 8 by omega) ?_
          refine aw_iconst (v := nI 3) (pcn := 123) dX7_told_122 rfl (by decide) ?_
          refine aw_icmp_ne (t := 130) (pcn := 126) dX7_told_123 rfl (by decide) (fun q3 => ?_) (fun q3 => ?_)
          · refine aw_alo 0 (pcn := 131) rfl dX7_told_130 rfl rfl (rf_some _) ?_
            refine aw_ilo 1 (pcn := 132) rfl dX7_told_131 rfl rfl ?_
            refine aw_Vi (pcn := 135) (r_newest hW (c := c) (n := n) hc8 (by omega) hI.n18) mf_X7_newest mv_X7_newest hW.mo rfl ml_X7_117 rfl (by decide) (by decide) (by decide) (by exact Nat.le_of_ble_eq_true rfl) rfl dX7_told_132 rfl (fun r h2 hq => ?_)
            obtain ⟨rfl, hq⟩ := hq
            obtain rfl := hq.symm
            exact aw_iret dX7_told_135 rfl ⟨_, rfl, ⟨by rw [toldT_eq hc8 (by assumption), swI_in (by decide) (by decide)]; simp only [toldV, q1, q2, q3, Bool.false_eq_true, Bool.true_eq_false, reduceCtorEq, if_true, if_false, or_false, false_or, or_true, true_or, and_true, true_and, and_false, false_and, not_true_eq_false, not_false_eq_true, or_self, ← Int32.not_le, frT, isCT, isST, isPT, isZT, shiT]; try rfl, rfl⟩⟩
          · refine aw_iconst (v := -1) (pcn := 127) dX7_told_126 rfl (by decide) ?_
            refine aw_goto (t := 135) dX7_told_127 (by decide) ?_
            exact aw_iret dX7_told_135 rfl ⟨_, rfl, ⟨by rw [toldT_eq hc8 (by assumption), swI_in (by decide) (by decide)]; simp only [toldV, q1, q2, q3, Bool.false_eq_true, Bool.true_eq_false, reduceCtorEq, if_true, if_false, or_false, false_or, or_true, true_or, and_true, true_and, and_false, false_and, not_true_eq_false, not_false_eq_true, or_self, ← Int32.not_le, frT, isCT, isST, isPT, isZT, shiT]; try rfl, rfl⟩⟩
        · refine aw_tsIn (off := 110) (t := 136) dX7_told_26 (by decide) (by decide) (by decide) (by decide) ?_
          refine aw_alo 0 (pcn := 137) rfl dX7_told_136 rfl rfl (rf_some _) ?_
          refine aw_getf (pcn := 140) fl_X7_28 dX7_told_137 rfl hW.mo rfl ?_
          refine aw_ilo 1 (pcn := 141) rfl dX7_told_140 rfl rfl ?_
          refine aw_ialdM (j := 10) (pcn := 142) hW dX7_told_141 rfl (show _ < 8 by omega) ?_
          exact aw_iret dX7_told_142 rfl ⟨_, rfl, ⟨by rw [toldT_eq hc8 (by assumption), swI_in (by decide) (by decide)]; simp only [toldV, q1, q2, Bool.false_eq_true, Bool.true_eq_false, reduceCtorEq, if_true, if_false, or_false, false_or, or_true, true_or, and_true, true_and, and_false, false_and, not_true_eq_false, not_false_eq_true, or_self, ← Int32.not_le, frT, isCT, isST, isPT, isZT, shiT]; try rfl, rfl⟩⟩
        · refine aw_tsIn (off := 117) (t := 143) dX7_told_26 (by decide) (by decide) (by decide) (by decide) ?_
          refine aw_alo 0 (pcn := 144) rfl dX7_told_143 rfl rfl (rf_some _) ?_
          refine aw_getf (pcn := 147) fl_X7_25 dX7_told_144 rfl hW.mo rfl ?_
          refine aw_ilo 1 (pcn := 148) rfl dX7_told_147 rfl rfl ?_
          refine aw_ialdM (j := 9) (pcn := 149) hW dX7_told_148 rfl (show _ < 8 by omega) ?_
          refine aw_iconst (v := nI 2) (pcn := 150) dX7_told_149 rfl (by decide) ?_
          refine aw_icmp_ne (t := 162) (pcn := 153) dX7_told_150 rfl (by decide) (fun q4 => ?_) (fun q4 => ?_)
          · refine aw_iconst (v := nI 0) (pcn := 163) dX7_told_162 rfl (by decide) ?_
            exact aw_iret dX7_told_163 rfl ⟨_, rfl, ⟨by rw [toldT_eq hc8 (by assumption), swI_in (by decide) (by decide)]; simp only [toldV, q1, q2, q4, Bool.false_eq_true, Bool.true_eq_false, reduceCtorEq, if_true, if_false, or_false, false_or, or_true, true_or, and_true, true_and, and_false, false_and, not_true_eq_false, not_false_eq_true, or_self, ← Int32.not_le, frT, isCT, isST, isPT, isZT, shiT]; try rfl, rfl⟩⟩
          · refine aw_alo 0 (pcn := 154) rfl dX7_told_153 rfl rfl (rf_some _) ?_
            refine aw_getf (pcn := 157) fl_X7_31 dX7_told_154 rfl hW.mo rfl ?_
            refine aw_ilo 1 (pcn := 158) rfl dX7_told_157 rfl rfl ?_
            refine aw_ialdM (j := 11) (pcn := 159) hW dX7_told_158 rfl (show _ < 8 by omega) ?_
            refine aw_goto (t := 163) dX7_told_159 (by decide) ?_
            exact aw_iret dX7_told_163 rfl ⟨_, rfl, ⟨by rw [toldT_eq hc8 (by assumption), swI_in (by decide) (by decide)]; simp only [toldV, q1, q2, q4, Bool.false_eq_true, Bool.true_eq_false, reduceCtorEq, if_true, if_false, or_false, false_or, or_true, true_or, and_true, true_and, and_false, false_and, not_true_eq_false, not_false_eq_true, or_self, ← Int32.not_le, frT, isCT, isST, isPT, isZT, shiT]; try rfl, rfl⟩⟩
        · refine aw_tsIn (off := 138) (t := 164) dX7_told_26 (by decide) (by decide) (by decide) (by decide) ?_
          refine aw_alo 0 (pcn := 165) rfl dX7_told_164 rfl rfl (rf_some _) ?_
          refine aw_getf (pcn := 168) fl_X7_34 dX7_told_165 rfl hW.mo rfl ?_
          refine aw_ilo 1 (pcn := 169) rfl dX7_told_168 rfl rfl ?_
          refine aw_ialdM (j := 12) (pcn := 170) hW dX7_told_169 rfl (show _ < 8 by omega) ?_
          exact aw_iret dX7_told_170 rfl ⟨_, rfl, ⟨by rw [toldT_eq hc8 (by assumption), swI_in (by decide) (by decide)]; simp only [toldV, q1, q2, Bool.false_eq_true, Bool.true_eq_false, reduceCtorEq, if_true, if_false, or_false, false_or, or_true, true_or, and_true, true_and, and_false, false_and, not_true_eq_false, not_false_eq_true, or_self, ← Int32.not_le, frT, isCT, isST, isPT, isZT, shiT]; try rfl, rfl⟩⟩
        · refine aw_tsIn (off := 145) (t := 171) dX7_told_26 (by decide) (by decide) (by decide) (by decide) ?_
          refine aw_ilo 3 (pcn := 172) rfl dX7_told_171 rfl rfl ?_
          refine aw_if_eq (t := 184) (pcn := 175) dX7_told_172 rfl (by decide) (fun q5 => ?_) (fun q5 => absurd (by decide) q5)
          refine aw_iconst (v := -1) (pcn := 185) dX7_told_184 rfl (by decide) ?_
          exact aw_iret dX7_told_185 rfl ⟨_, rfl, ⟨by rw [toldT_eq hc8 (by assumption), swI_in (by decide) (by decide)]; simp only [toldV, q1, q2, Bool.false_eq_true, Bool.true_eq_false, reduceCtorEq, if_true, if_false, or_false, false_or, or_true, true_or, and_true, true_and, and_false, false_and, not_true_eq_false, not_false_eq_true, or_self, ← Int32.not_le, frT, isCT, isST, isPT, isZT, shiT]; try rfl, rfl⟩⟩
        · refine aw_tsIn (off := 160) (t := 186) dX7_told_26 (by decide) (by decide) (by decide) (by decide) ?_
          refine aw_ilo 3 (pcn := 187) rfl dX7_told_186 rfl rfl ?_
          refine aw_if_eq (t := 199) (pcn := 190) dX7_told_187 rfl (by decide) (fun q6 => ?_) (fun q6 => absurd (by decide) q6)
          refine aw_iconst (v := nI 0) (pcn := 200) dX7_told_199 rfl (by decide) ?_
          exact aw_iret dX7_told_200 rfl ⟨_, rfl, ⟨by rw [toldT_eq hc8 (by assumption), swI_in (by decide) (by decide)]; simp only [toldV, q1, q2, Bool.false_eq_true, Bool.true_eq_false, reduceCtorEq, if_true, if_false, or_false, false_or, or_true, true_or, and_true, true_and, and_false, false_and, not_true_eq_false, not_false_eq_true, or_self, ← Int32.not_le, frT, isCT, isST, isPT, isZT, shiT]; try rfl, rfl⟩⟩
        · refine aw_tsIn (off := 175) (t := 201) dX7_told_26 (by decide) (by decide) (by decide) (by decide) ?_
          refine aw_ilo 3 (pcn := 202) rfl dX7_told_201 rfl rfl ?_
          refine aw_if_eq (t := 214) (pcn := 205) dX7_told_202 rfl (by decide) (fun q7 => ?_) (fun q7 => absurd (by decide) q7)
          refine aw_iconst (v := nI 0) (pcn := 215) dX7_told_214 rfl (by decide) ?_
          exact aw_iret dX7_told_215 rfl ⟨_, rfl, ⟨by rw [toldT_eq hc8 (by assumption), swI_in (by decide) (by decide)]; simp only [toldV, q1, q2, Bool.false_eq_true, Bool.true_eq_false, reduceCtorEq, if_true, if_false, or_false, false_or, or_true, true_or, and_true, true_and, and_false, false_and, not_true_eq_false, not_false_eq_true, or_self, ← Int32.not_le, frT, isCT, isST, isPT, isZT, shiT]; try rfl, rfl⟩⟩
        · refine aw_tsIn (off := 190) (t := 216) dX7_told_26 (by decide) (by decide) (by decide) (by decide) ?_
          refine aw_alo 0 (pcn := 217) rfl dX7_told_216 rfl rfl (rf_some _) ?_
          refine aw_getf (pcn := 220) fl_X7_37 dX7_told_217 rfl hW.mo rfl ?_
          refine aw_ilo 1 (pcn := 221) rfl dX7_told_220 rfl rfl ?_
          refine aw_ialdM (j := 13) (pcn := 222) hW dX7_told_221 rfl (show _ < 8 by omega) ?_
          exact aw_iret dX7_told_222 rfl ⟨_, rfl, ⟨by rw [toldT_eq hc8 (by assumption), swI_in (by decide) (by decide)]; simp only [toldV, q1, q2, Bool.false_eq_true, Bool.true_eq_false, reduceCtorEq, if_true, if_false, or_false, false_or, or_true, true_or, and_true, true_and, and_false, false_and, not_true_eq_false, not_false_eq_true, or_self, ← Int32.not_le, frT, isCT, isST, isPT, isZT, shiT]; try rfl, rfl⟩⟩
    · refine aw_iconst (v := nI 1) (pcn := 20) dX7_told_19 rfl (by decide) ?_
      refine aw_goto (t := 24) dX7_told_20 (by decide) ?_
      refine aw_ist 3 (pcn := 25) rfl dX7_told_24 rfl (by decide) ?_
      dsimp only [List.set_cons_zero, List.set_cons_succ]
      refine aw_ilo 2 (pcn := 26) rfl dX7_told_25 rfl rfl ?_
      rcases pk_ix w (n := 12) (by decide) with hsw | hsw | ⟨jj, hj, rfl⟩
      · refine aw_tsOut (t := 223) dX7_told_26 (Or.inl (ts_lo hsw)) (by decide) ?_
        refine aw_iconst (v := -1) (pcn := 224) dX7_told_223 rfl (by decide) ?_
        exact aw_iret dX7_told_224 rfl ⟨_, rfl, ⟨by rw [toldT_eq hc8 (by assumption), swI_lo hsw], rfl⟩⟩
      · refine aw_tsOut (t := 223) dX7_told_26 (Or.inr (ts_hi 12 (by decide) hsw)) (by decide) ?_
        refine aw_iconst (v := -1) (pcn := 224) dX7_told_223 rfl (by decide) ?_
        exact aw_iret dX7_told_224 rfl ⟨_, rfl, ⟨by rw [toldT_eq hc8 (by assumption), swI_hi hsw], rfl⟩⟩
      · rcases (show jj = 0 ∨ jj = 1 ∨ jj = 2 ∨ jj = 3 ∨ jj = 4 ∨ jj = 5 ∨ jj = 6 ∨ jj = 7 ∨ jj = 8 ∨ jj = 9 ∨ jj = 10 ∨ jj = 11 by omega) with rfl | rfl | rfl | rfl | rfl | rfl | rfl | rfl | rfl | rfl | rfl | rfl
        · refine aw_tsIn (off := 62) (t := 88) dX7_told_26 (by decide) (by decide) (by decide) (by decide) ?_
          refine aw_alo 0 (pcn := 89) rfl dX7_told_88 rfl rfl (rf_some _) ?_
          refine aw_getf (pcn := 92) fl_X7_25 dX7_told_89 rfl hW.mo rfl ?_
          refine aw_ilo 1 (pcn := 93) rfl dX7_told_92 rfl rfl ?_
          refine aw_ialdM (j := 9) (pcn := 94) hW dX7_told_93 rfl (show _ < 8 by omega) ?_
          exact aw_iret dX7_told_94 rfl ⟨_, rfl, ⟨by rw [toldT_eq hc8 (by assumption), swI_in (by decide) (by decide)]; simp only [toldV, q1, q2, Bool.false_eq_true, Bool.true_eq_false, reduceCtorEq, if_true, if_false, or_false, false_or, or_true, true_or, and_true, true_and, and_false, false_and, not_true_eq_false, not_false_eq_true, or_self, ← Int32.not_le, frT, isCT, isST, isPT, isZT, shiT]; try rfl, rfl⟩⟩
        · refine aw_tsIn (off := 69) (t := 95) dX7_told_26 (by decide) (by decide) (by decide) (by decide) ?_
          refine aw_alo 0 (pcn := 96) rfl dX7_told_95 rfl rfl (rf_some _) ?_
          refine aw_getf (pcn := 99) fl_X7_22 dX7_told_96 rfl hW.mo rfl ?_
          refine aw_ilo 1 (pcn := 100) rfl dX7_told_99 rfl rfl ?_
          refine aw_ialdM (j := 8) (pcn := 101) hW dX7_told_100 rfl (show _ < 8 by omega) ?_
          exact aw_iret dX7_told_101 rfl ⟨_, rfl, ⟨by rw [toldT_eq hc8 (by assumption), swI_in (by decide) (by decide)]; simp only [toldV, q1, q2, Bool.false_eq_true, Bool.true_eq_false, reduceCtorEq, if_true, if_false, or_false, false_or, or_true, true_or, and_true, true_and, and_false, false_and, not_true_eq_false, not_false_eq_true, or_self, ← Int32.not_le, frT, isCT, isST, isPT, isZT, shiT]; try rfl, rfl⟩⟩
        · refine aw_tsIn (off := 76) (t := 102) dX7_told_26 (by decide) (by decide) (by decide) (by decide) ?_
          refine aw_alo 0 (pcn := 103) rfl dX7_told_102 rfl rfl (rf_some _) ?_
          refine aw_getf (pcn := 106) fl_X7_19 dX7_told_103 rfl hW.mo rfl ?_
          refine aw_ilo 1 (pcn := 107) rfl dX7_told_106 rfl rfl ?_
          refine aw_ialdM (j := 7) (pcn := 108) hW dX7_told_107 rfl (show _ < 8 by omega) ?_
          exact aw_iret dX7_told_108 rfl ⟨_, rfl, ⟨by rw [toldT_eq hc8 (by assumption), swI_in (by decide) (by decide)]; simp only [toldV, q1, q2, Bool.false_eq_true, Bool.true_eq_false, reduceCtorEq, if_true, if_false, or_false, false_or, or_true, true_or, and_true, true_and, and_false, false_and, not_true_eq_false, not_false_eq_true, or_self, ← Int32.not_le, frT, isCT, isST, isPT, isZT, shiT]; try rfl, rfl⟩⟩
        · refine aw_tsIn (off := 83) (t := 109) dX7_told_26 (by decide) (by decide) (by decide) (by decide) ?_
          refine aw_alo 0 (pcn := 110) rfl dX7_told_109 rfl rfl (rf_some _) ?_
          refine aw_getf (pcn := 113) fl_X7_16 dX7_told_110 rfl hW.mo rfl ?_
          refine aw_ilo 1 (pcn := 114) rfl dX7_told_113 rfl rfl ?_
          refine aw_ialdM (j := 6) (pcn := 115) hW dX7_told_114 rfl (show _ < 8 by omega) ?_
          exact aw_iret dX7_told_115 rfl ⟨_, rfl, ⟨by rw [toldT_eq hc8 (by assumption), swI_in (by decide) (by decide)]; simp only [toldV, q1, q2, Bool.false_eq_true, Bool.true_eq_false, reduceCtorEq, if_true, if_false, or_false, false_or, or_true, true_or, and_true, true_and, and_false, false_and, not_true_eq_false, not_false_eq_true, or_self, ← Int32.not_le, frT, isCT, isST, isPT, isZT, shiT]; try rfl, rfl⟩⟩
        · refine aw_tsIn (off := 90) (t := 116) dX7_told_26 (by decide) (by decide) (by decide) (by decide) ?_
          refine aw_alo 0 (pcn := 117) rfl dX7_told_116 rfl rfl (rf_some _) ?_
          refine aw_getf (pcn := 120) fl_X7_25 dX7_told_117 rfl hW.mo rfl ?_
          refine aw_ilo 1 (pcn := 121) rfl dX7_told_120 rfl rfl ?_
          refine aw_ialdM (j := 9) (pcn := 122) hW dX7_told_121 rfl (show _ < 8 by omega) ?_
          refine aw_iconst (v := nI 3) (pcn := 123) dX7_told_122 rfl (by decide) ?_
          refine aw_icmp_ne (t := 130) (pcn := 126) dX7_told_123 rfl (by decide) (fun q8 => ?_) (fun q8 => ?_)
          · refine aw_alo 0 (pcn := 131) rfl dX7_told_130 rfl rfl (rf_some _) ?_
            refine aw_ilo 1 (pcn := 132) rfl dX7_told_131 rfl rfl ?_
            refine aw_Vi (pcn := 135) (r_newest hW (c := c) (n := n) hc8 (by omega) hI.n18) mf_X7_newest mv_X7_newest hW.mo rfl ml_X7_117 rfl (by decide) (by decide) (by decide) (by exact Nat.le_of_ble_eq_true rfl) rfl dX7_told_132 rfl (fun r h2 hq => ?_)
            obtain ⟨rfl, hq⟩ := hq
            obtain rfl := hq.symm
            exact aw_iret dX7_told_135 rfl ⟨_, rfl, ⟨by rw [toldT_eq hc8 (by assumption), swI_in (by decide) (by decide)]; simp only [toldV, q1, q2, q8, Bool.false_eq_true, Bool.true_eq_false, reduceCtorEq, if_true, if_false, or_false, false_or, or_true, true_or, and_true, true_and, and_false, false_and, not_true_eq_false, not_false_eq_true, or_self, ← Int32.not_le, frT, isCT, isST, isPT, isZT, shiT]; try rfl, rfl⟩⟩
          · refine aw_iconst (v := -1) (pcn := 127) dX7_told_126 rfl (by decide) ?_
            refine aw_goto (t := 135) dX7_told_127 (by decide) ?_
            exact aw_iret dX7_told_135 rfl ⟨_, rfl, ⟨by rw [toldT_eq hc8 (by assumption), swI_in (by decide) (by decide)]; simp only [toldV, q1, q2, q8, Bool.false_eq_true, Bool.true_eq_false, reduceCtorEq, if_true, if_false, or_false, false_or, or_true, true_or, and_true, true_and, and_false, false_and, not_true_eq_false, not_false_eq_true, or_self, ← Int32.not_le, frT, isCT, isST, isPT, isZT, shiT]; try rfl, rfl⟩⟩
        · refine aw_tsIn (off := 110) (t := 136) dX7_told_26 (by decide) (by decide) (by decide) (by decide) ?_
          refine aw_alo 0 (pcn := 137) rfl dX7_told_136 rfl rfl (rf_some _) ?_
          refine aw_getf (pcn := 140) fl_X7_28 dX7_told_137 rfl hW.mo rfl ?_
          refine aw_ilo 1 (pcn := 141) rfl dX7_told_140 rfl rfl ?_
          refine aw_ialdM (j := 10) (pcn := 142) hW dX7_told_141 rfl (show _ < 8 by omega) ?_
          exact aw_iret dX7_told_142 rfl ⟨_, rfl, ⟨by rw [toldT_eq hc8 (by assumption), swI_in (by decide) (by decide)]; simp only [toldV, q1, q2, Bool.false_eq_true, Bool.true_eq_false, reduceCtorEq, if_true, if_false, or_false, false_or, or_true, true_or, and_true, true_and, and_false, false_and, not_true_eq_false, not_false_eq_true, or_self, ← Int32.not_le, frT, isCT, isST, isPT, isZT, shiT]; try rfl, rfl⟩⟩
        · refine aw_tsIn (off := 117) (t := 143) dX7_told_26 (by decide) (by decide) (by decide) (by decide) ?_
          refine aw_alo 0 (pcn := 144) rfl dX7_told_143 rfl rfl (rf_some _) ?_
          refine aw_getf (pcn := 147) fl_X7_25 dX7_told_144 rfl hW.mo rfl ?_
          refine aw_ilo 1 (pcn := 148) rfl dX7_told_147 rfl rfl ?_
          refine aw_ialdM (j := 9) (pcn := 149) hW dX7_told_148 rfl (show _ < 8 by omega) ?_
          refine aw_iconst (v := nI 2) (pcn := 150) dX7_told_149 rfl (by decide) ?_
          refine aw_icmp_ne (t := 162) (pcn := 153) dX7_told_150 rfl (by decide) (fun q9 => ?_) (fun q9 => ?_)
          · refine aw_iconst (v := nI 0) (pcn := 163) dX7_told_162 rfl (by decide) ?_
            exact aw_iret dX7_told_163 rfl ⟨_, rfl, ⟨by rw [toldT_eq hc8 (by assumption), swI_in (by decide) (by decide)]; simp only [toldV, q1, q2, q9, Bool.false_eq_true, Bool.true_eq_false, reduceCtorEq, if_true, if_false, or_false, false_or, or_true, true_or, and_true, true_and, and_false, false_and, not_true_eq_false, not_false_eq_true, or_self, ← Int32.not_le, frT, isCT, isST, isPT, isZT, shiT]; try rfl, rfl⟩⟩
          · refine aw_alo 0 (pcn := 154) rfl dX7_told_153 rfl rfl (rf_some _) ?_
            refine aw_getf (pcn := 157) fl_X7_31 dX7_told_154 rfl hW.mo rfl ?_
            refine aw_ilo 1 (pcn := 158) rfl dX7_told_157 rfl rfl ?_
            refine aw_ialdM (j := 11) (pcn := 159) hW dX7_told_158 rfl (show _ < 8 by omega) ?_
            refine aw_goto (t := 163) dX7_told_159 (by decide) ?_
            exact aw_iret dX7_told_163 rfl ⟨_, rfl, ⟨by rw [toldT_eq hc8 (by assumption), swI_in (by decide) (by decide)]; simp only [toldV, q1, q2, q9, Bool.false_eq_true, Bool.true_eq_false, reduceCtorEq, if_true, if_false, or_false, false_or, or_true, true_or, and_true, true_and, and_false, false_and, not_true_eq_false, not_false_eq_true, or_self, ← Int32.not_le, frT, isCT, isST, isPT, isZT, shiT]; try rfl, rfl⟩⟩
        · refine aw_tsIn (off := 138) (t := 164) dX7_told_26 (by decide) (by decide) (by decide) (by decide) ?_
          refine aw_alo 0 (pcn := 165) rfl dX7_told_164 rfl rfl (rf_some _) ?_
          refine aw_getf (pcn := 168) fl_X7_34 dX7_told_165 rfl hW.mo rfl ?_
          refine aw_ilo 1 (pcn := 169) rfl dX7_told_168 rfl rfl ?_
          refine aw_ialdM (j := 12) (pcn := 170) hW dX7_told_169 rfl (show _ < 8 by omega) ?_
          exact aw_iret dX7_told_170 rfl ⟨_, rfl, ⟨by rw [toldT_eq hc8 (by assumption), swI_in (by decide) (by decide)]; simp only [toldV, q1, q2, Bool.false_eq_true, Bool.true_eq_false, reduceCtorEq, if_true, if_false, or_false, false_or, or_true, true_or, and_true, true_and, and_false, false_and, not_true_eq_false, not_false_eq_true, or_self, ← Int32.not_le, frT, isCT, isST, isPT, isZT, shiT]; try rfl, rfl⟩⟩
        · refine aw_tsIn (off := 145) (t := 171) dX7_told_26 (by decide) (by decide) (by decide) (by decide) ?_
          refine aw_ilo 3 (pcn := 172) rfl dX7_told_171 rfl rfl ?_
          refine aw_if_eq (t := 184) (pcn := 175) dX7_told_172 rfl (by decide) (fun q10 => absurd q10 (by decide)) (fun q10 => ?_)
          refine aw_alo 0 (pcn := 176) rfl dX7_told_175 rfl rfl (rf_some _) ?_
          refine aw_getf (pcn := 179) fl_X7_43 dX7_told_176 rfl hW.mo rfl ?_
          refine aw_ilo 1 (pcn := 180) rfl dX7_told_179 rfl rfl ?_
          refine aw_ialdM (j := 15) (pcn := 181) hW dX7_told_180 rfl (show _ < 8 by omega) ?_
          refine aw_goto (t := 185) dX7_told_181 (by decide) ?_
          exact aw_iret dX7_told_185 rfl ⟨_, rfl, ⟨by rw [toldT_eq hc8 (by assumption), swI_in (by decide) (by decide)]; simp only [toldV, q1, q2, Bool.false_eq_true, Bool.true_eq_false, reduceCtorEq, if_true, if_false, or_false, false_or, or_true, true_or, and_true, true_and, and_false, false_and, not_true_eq_false, not_false_eq_true, or_self, ← Int32.not_le, frT, isCT, isST, isPT, isZT, shiT]; try rfl, rfl⟩⟩
        · refine aw_tsIn (off := 160) (t := 186) dX7_told_26 (by decide) (by decide) (by decide) (by decide) ?_
          refine aw_ilo 3 (pcn := 187) rfl dX7_told_186 rfl rfl ?_
          refine aw_if_eq (t := 199) (pcn := 190) dX7_told_187 rfl (by decide) (fun q11 => absurd q11 (by decide)) (fun q11 => ?_)
          refine aw_alo 0 (pcn := 191) rfl dX7_told_190 rfl rfl (rf_some _) ?_
          refine aw_getf (pcn := 194) fl_X7_40 dX7_told_191 rfl hW.mo rfl ?_
          refine aw_ilo 1 (pcn := 195) rfl dX7_told_194 rfl rfl ?_
          refine aw_ialdM (j := 14) (pcn := 196) hW dX7_told_195 rfl (show _ < 8 by omega) ?_
          refine aw_goto (t := 200) dX7_told_196 (by decide) ?_
          exact aw_iret dX7_told_200 rfl ⟨_, rfl, ⟨by rw [toldT_eq hc8 (by assumption), swI_in (by decide) (by decide)]; simp only [toldV, q1, q2, Bool.false_eq_true, Bool.true_eq_false, reduceCtorEq, if_true, if_false, or_false, false_or, or_true, true_or, and_true, true_and, and_false, false_and, not_true_eq_false, not_false_eq_true, or_self, ← Int32.not_le, frT, isCT, isST, isPT, isZT, shiT]; try rfl, rfl⟩⟩
        · refine aw_tsIn (off := 175) (t := 201) dX7_told_26 (by decide) (by decide) (by decide) (by decide) ?_
          refine aw_ilo 3 (pcn := 202) rfl dX7_told_201 rfl rfl ?_
          refine aw_if_eq (t := 214) (pcn := 205) dX7_told_202 rfl (by decide) (fun q12 => absurd q12 (by decide)) (fun q12 => ?_)
          refine aw_alo 0 (pcn := 206) rfl dX7_told_205 rfl rfl (rf_some _) ?_
          refine aw_getf (pcn := 209) fl_X7_49 dX7_told_206 rfl hW.mo rfl ?_
          refine aw_ilo 1 (pcn := 210) rfl dX7_told_209 rfl rfl ?_
          refine aw_ialdM (j := 17) (pcn := 211) hW dX7_told_210 rfl (show _ < 8 by omega) ?_
          refine aw_goto (t := 215) dX7_told_211 (by decide) ?_
          exact aw_iret dX7_told_215 rfl ⟨_, rfl, ⟨by rw [toldT_eq hc8 (by assumption), swI_in (by decide) (by decide)]; simp only [toldV, q1, q2, Bool.false_eq_true, Bool.true_eq_false, reduceCtorEq, if_true, if_false, or_false, false_or, or_true, true_or, and_true, true_and, and_false, false_and, not_true_eq_false, not_false_eq_true, or_self, ← Int32.not_le, frT, isCT, isST, isPT, isZT, shiT]; try rfl, rfl⟩⟩
        · refine aw_tsIn (off := 190) (t := 216) dX7_told_26 (by decide) (by decide) (by decide) (by decide) ?_
          refine aw_alo 0 (pcn := 217) rfl dX7_told_216 rfl rfl (rf_some _) ?_
          refine aw_getf (pcn := 220) fl_X7_37 dX7_told_217 rfl hW.mo rfl ?_
          refine aw_ilo 1 (pcn := 221) rfl dX7_told_220 rfl rfl ?_
          refine aw_ialdM (j := 13) (pcn := 222) hW dX7_told_221 rfl (show _ < 8 by omega) ?_
          exact aw_iret dX7_told_222 rfl ⟨_, rfl, ⟨by rw [toldT_eq hc8 (by assumption), swI_in (by decide) (by decide)]; simp only [toldV, q1, q2, Bool.false_eq_true, Bool.true_eq_false, reduceCtorEq, if_true, if_false, or_false, false_or, or_true, true_or, and_true, true_and, and_false, false_and, not_true_eq_false, not_false_eq_true, or_self, ← Int32.not_le, frT, isCT, isST, isPT, isZT, shiT]; try rfl, rfl⟩⟩
  · refine aw_iconst (v := -1) (pcn := 9) dX7_told_8 rfl (by decide) ?_
    exact aw_iret dX7_told_9 rfl ⟨_, rfl, ⟨by unfold toldT; exact (if_pos q1).symm, rfl⟩⟩

set_option maxHeartbeats 8000000 in
set_option maxRecDepth 20000 in
theorem r_a_of {X : XG} {l : Launch} {Γ : NM} {ow : Nat → Nat × Nat} {h : Hp} {T Tr : TB} {nh : Nat} (hW : WD Γ ow h T Tr nh) {i C n Z hN : Nat} (hI : Iv i Tr C n Z hN) (s w : Int32) : AM X l yX7_of cX7_of 4 (some .int) 3 0 0 [.ref (Γ 14 0), .int s, .int w] h (qi fun r h' => r = ofT Tr s w ∧ h' = h) := by
  refine AM.of (by decide +kernel) (by simp [Value.category]) (Nat.le_of_ble_eq_true rfl) ?_
  show AW X l cX7_of RX7 "of" (some .int) 4 3 none _ 0 0 0 [some (.ref (Γ 14 0)), some (.int s), some (.int w), none] [] h
  have h64 := hI.n64
  have h8 := hI.C8
  have h16 := hI.Z16
  have h4 := hI.h4
  refine aw_alo 0 (pcn := 1) rfl dX7_of_0 rfl rfl (rf_some _) ?_
  refine aw_ilo 1 (pcn := 2) rfl dX7_of_1 rfl rfl ?_
  refine aw_Vi (pcn := 5) (r_isState hW _) mf_X7_isState mv_X7_isState hW.mo rfl ml_X7_83 rfl (by decide) (by decide) (by decide) (by exact Nat.le_of_ble_eq_true rfl) rfl dX7_of_2 rfl (fun r h2 hq => ?_)
  obtain ⟨rfl, hq⟩ := hq
  obtain rfl := hq.symm
  refine aw_if_neB (t := 10) (pcn := 8) dX7_of_5 rfl (by decide) (fun q1 => ?_) (fun q1 => ?_)
  · obtain ⟨S, c, rfl, hSn, hcC, hc0⟩ := hI.oST q1
    have hS : S < 64 := by omega
    have hc8 : c < 8 := by omega
    refine aw_bipush (v := nI 35) (pcn := 12) dX7_of_10 rfl (by decide) ?_
    refine aw_ilo 1 (pcn := 13) rfl dX7_of_12 rfl rfl ?_
    refine aw_imulN (pcn := 14) dX7_of_13 rfl ?_
    refine aw_ist 3 (pcn := 15) rfl dX7_of_14 rfl (by decide) ?_
    dsimp only [List.set_cons_zero, List.set_cons_succ]
    refine aw_ilo 2 (pcn := 16) rfl dX7_of_15 rfl rfl ?_
    rcases pk_ix w (n := 10) (by decide) with hsw | hsw | ⟨jj, hj, rfl⟩
    · refine aw_tsOut (t := 168) dX7_of_16 (Or.inl (ts_lo hsw)) (by decide) ?_
      refine aw_iconst (v := -1) (pcn := 169) dX7_of_168 rfl (by decide) ?_
      exact aw_iret dX7_of_169 rfl ⟨_, rfl, ⟨by rw [ofT_eq hS hc8 hc0 (by assumption), swI_lo hsw], rfl⟩⟩
    · refine aw_tsOut (t := 168) dX7_of_16 (Or.inr (ts_hi 10 (by decide) hsw)) (by decide) ?_
      refine aw_iconst (v := -1) (pcn := 169) dX7_of_168 rfl (by decide) ?_
      exact aw_iret dX7_of_169 rfl ⟨_, rfl, ⟨by rw [ofT_eq hS hc8 hc0 (by assumption), swI_hi hsw], rfl⟩⟩
    · rcases (show jj = 0 ∨ jj = 1 ∨ jj = 2 ∨ jj = 3 ∨ jj = 4 ∨ jj = 5 ∨ jj = 6 ∨ jj = 7 ∨ jj = 8 ∨ jj = 9 by omega) with rfl | rfl | rfl | rfl | rfl | rfl | rfl | rfl | rfl | rfl
      · refine aw_tsIn (off := 56) (t := 72) dX7_of_16 (by decide) (by decide) (by decide) (by decide) ?_
        refine aw_alo 0 (pcn := 73) rfl dX7_of_72 rfl rfl (rf_some _) ?_
        refine aw_getf (pcn := 76) fl_X7_52 dX7_of_73 rfl hW.mo rfl ?_
        refine aw_ilo 3 (pcn := 77) rfl dX7_of_76 rfl rfl ?_
        refine aw_iconst (v := nI 0) (pcn := 78) dX7_of_77 rfl (by decide) ?_
        refine aw_iaddN (pcn := 79) dX7_of_78 rfl ?_
        refine aw_ialdM (j := 19) (pcn := 80) hW dX7_of_79 rfl (show _ < 2240 by omega) ?_
        exact aw_iret dX7_of_80 rfl ⟨_, rfl, ⟨by rw [ofT_eq hS hc8 hc0 (by assumption), swI_in (by decide) (by decide)]; simp only [ofV, q1, Bool.false_eq_true, Bool.true_eq_false, reduceCtorEq, if_true, if_false, or_false, false_or, or_true, true_or, and_true, true_and, and_false, false_and, not_true_eq_false, not_false_eq_true, or_self, ← Int32.not_le, frT, isCT, isST, isPT, isZT, shiT]; try rfl, rfl⟩⟩
      · refine aw_tsIn (off := 65) (t := 81) dX7_of_16 (by decide) (by decide) (by decide) (by decide) ?_
        refine aw_alo 0 (pcn := 82) rfl dX7_of_81 rfl rfl (rf_some _) ?_
        refine aw_getf (pcn := 85) fl_X7_52 dX7_of_82 rfl hW.mo rfl ?_
        refine aw_ilo 3 (pcn := 86) rfl dX7_of_85 rfl rfl ?_
        refine aw_iconst (v := nI 1) (pcn := 87) dX7_of_86 rfl (by decide) ?_
        refine aw_iaddN (pcn := 88) dX7_of_87 rfl ?_
        refine aw_ialdM (j := 19) (pcn := 89) hW dX7_of_88 rfl (show _ < 2240 by omega) ?_
        exact aw_iret dX7_of_89 rfl ⟨_, rfl, ⟨by rw [ofT_eq hS hc8 hc0 (by assumption), swI_in (by decide) (by decide)]; simp only [ofV, q1, Bool.false_eq_true, Bool.true_eq_false, reduceCtorEq, if_true, if_false, or_false, false_or, or_true, true_or, and_true, true_and, and_false, false_and, not_true_eq_false, not_false_eq_true, or_self, ← Int32.not_le, frT, isCT, isST, isPT, isZT, shiT]; try rfl, rfl⟩⟩
      · refine aw_tsIn (off := 74) (t := 90) dX7_of_16 (by decide) (by decide) (by decide) (by decide) ?_
        refine aw_alo 0 (pcn := 91) rfl dX7_of_90 rfl rfl (rf_some _) ?_
        refine aw_getf (pcn := 94) fl_X7_52 dX7_of_91 rfl hW.mo rfl ?_
        refine aw_ilo 3 (pcn := 95) rfl dX7_of_94 rfl rfl ?_
        refine aw_iconst (v := nI 2) (pcn := 96) dX7_of_95 rfl (by decide) ?_
        refine aw_iaddN (pcn := 97) dX7_of_96 rfl ?_
        refine aw_ialdM (j := 19) (pcn := 98) hW dX7_of_97 rfl (show _ < 2240 by omega) ?_
        exact aw_iret dX7_of_98 rfl ⟨_, rfl, ⟨by rw [ofT_eq hS hc8 hc0 (by assumption), swI_in (by decide) (by decide)]; simp only [ofV, q1, Bool.false_eq_true, Bool.true_eq_false, reduceCtorEq, if_true, if_false, or_false, false_or, or_true, true_or, and_true, true_and, and_false, false_and, not_true_eq_false, not_false_eq_true, or_self, ← Int32.not_le, frT, isCT, isST, isPT, isZT, shiT]; try rfl, rfl⟩⟩
      · refine aw_tsIn (off := 83) (t := 99) dX7_of_16 (by decide) (by decide) (by decide) (by decide) ?_
        refine aw_alo 0 (pcn := 100) rfl dX7_of_99 rfl rfl (rf_some _) ?_
        refine aw_getf (pcn := 103) fl_X7_52 dX7_of_100 rfl hW.mo rfl ?_
        refine aw_ilo 3 (pcn := 104) rfl dX7_of_103 rfl rfl ?_
        refine aw_iconst (v := nI 3) (pcn := 105) dX7_of_104 rfl (by decide) ?_
        refine aw_iaddN (pcn := 106) dX7_of_105 rfl ?_
        refine aw_ialdM (j := 19) (pcn := 107) hW dX7_of_106 rfl (show _ < 2240 by omega) ?_
        exact aw_iret dX7_of_107 rfl ⟨_, rfl, ⟨by rw [ofT_eq hS hc8 hc0 (by assumption), swI_in (by decide) (by decide)]; simp only [ofV, q1, Bool.false_eq_true, Bool.true_eq_false, reduceCtorEq, if_true, if_false, or_false, false_or, or_true, true_or, and_true, true_and, and_false, false_and, not_true_eq_false, not_false_eq_true, or_self, ← Int32.not_le, frT, isCT, isST, isPT, isZT, shiT]; try rfl, rfl⟩⟩
      · refine aw_tsIn (off := 92) (t := 108) dX7_of_16 (by decide) (by decide) (by decide) (by decide) ?_
        refine aw_alo 0 (pcn := 109) rfl dX7_of_108 rfl rfl (rf_some _) ?_
        refine aw_ilo 1 (pcn := 110) rfl dX7_of_109 rfl rfl ?_
        refine aw_Vi (pcn := 113) (r_counts hW (S := S) (c := c) hS hc8 hc0) mf_X7_counts mv_X7_counts hW.mo rfl ml_X7_100 rfl (by decide) (by decide) (by decide) (by exact Nat.le_of_ble_eq_true rfl) rfl dX7_of_110 rfl (fun r h2 hq => ?_)
        obtain ⟨rfl, hq⟩ := hq
        obtain rfl := hq.symm
        refine aw_if_eqB (t := 120) (pcn := 116) dX7_of_113 rfl (by decide) (fun q2 => ?_) (fun q2 => ?_)
        · refine aw_iconst (v := nI 0) (pcn := 121) dX7_of_120 rfl (by decide) ?_
          exact aw_iret dX7_of_121 rfl ⟨_, rfl, ⟨by rw [ofT_eq hS hc8 hc0 (by assumption), swI_in (by decide) (by decide)]; simp only [ofV, q1, q2, Bool.false_eq_true, Bool.true_eq_false, reduceCtorEq, if_true, if_false, or_false, false_or, or_true, true_or, and_true, true_and, and_false, false_and, not_true_eq_false, not_false_eq_true, or_self, ← Int32.not_le, frT, isCT, isST, isPT, isZT, shiT]; try rfl, rfl⟩⟩
        · refine aw_iconst (v := nI 1) (pcn := 117) dX7_of_116 rfl (by decide) ?_
          refine aw_goto (t := 121) dX7_of_117 (by decide) ?_
          exact aw_iret dX7_of_121 rfl ⟨_, rfl, ⟨by rw [ofT_eq hS hc8 hc0 (by assumption), swI_in (by decide) (by decide)]; simp only [ofV, q1, q2, Bool.false_eq_true, Bool.true_eq_false, reduceCtorEq, if_true, if_false, or_false, false_or, or_true, true_or, and_true, true_and, and_false, false_and, not_true_eq_false, not_false_eq_true, or_self, ← Int32.not_le, frT, isCT, isST, isPT, isZT, shiT]; try rfl, rfl⟩⟩
      · refine aw_tsIn (off := 106) (t := 122) dX7_of_16 (by decide) (by decide) (by decide) (by decide) ?_
        refine aw_alo 0 (pcn := 123) rfl dX7_of_122 rfl rfl (rf_some _) ?_
        refine aw_ilo 1 (pcn := 124) rfl dX7_of_123 rfl rfl ?_
        refine aw_Vi (pcn := 127) (r_whole hW (S := S) hS) mf_X7_whole mv_X7_whole hW.mo rfl ml_X7_97 rfl (by decide) (by decide) (by decide) (by exact Nat.le_of_ble_eq_true rfl) rfl dX7_of_124 rfl (fun r h2 hq => ?_)
        obtain ⟨rfl, hq⟩ := hq
        obtain rfl := hq.symm
        exact aw_iret dX7_of_127 rfl ⟨_, rfl, ⟨by rw [ofT_eq hS hc8 hc0 (by assumption), swI_in (by decide) (by decide)]; simp only [ofV, q1, Bool.false_eq_true, Bool.true_eq_false, reduceCtorEq, if_true, if_false, or_false, false_or, or_true, true_or, and_true, true_and, and_false, false_and, not_true_eq_false, not_false_eq_true, or_self, ← Int32.not_le, frT, isCT, isST, isPT, isZT, shiT]; try rfl, rfl⟩⟩
      · refine aw_tsIn (off := 112) (t := 128) dX7_of_16 (by decide) (by decide) (by decide) (by decide) ?_
        refine aw_alo 0 (pcn := 129) rfl dX7_of_128 rfl rfl (rf_some _) ?_
        refine aw_getf (pcn := 132) fl_X7_52 dX7_of_129 rfl hW.mo rfl ?_
        refine aw_ilo 3 (pcn := 133) rfl dX7_of_132 rfl rfl ?_
        refine aw_bipush (v := nI 33) (pcn := 135) dX7_of_133 rfl (by decide) ?_
        refine aw_iaddN (pcn := 136) dX7_of_135 rfl ?_
        refine aw_ialdM (j := 19) (pcn := 137) hW dX7_of_136 rfl (show _ < 2240 by omega) ?_
        exact aw_iret dX7_of_137 rfl ⟨_, rfl, ⟨by rw [ofT_eq hS hc8 hc0 (by assumption), swI_in (by decide) (by decide)]; simp only [ofV, q1, Bool.false_eq_true, Bool.true_eq_false, reduceCtorEq, if_true, if_false, or_false, false_or, or_true, true_or, and_true, true_and, and_false, false_and, not_true_eq_false, not_false_eq_true, or_self, ← Int32.not_le, frT, isCT, isST, isPT, isZT, shiT]; try rfl, rfl⟩⟩
      · refine aw_tsIn (off := 122) (t := 138) dX7_of_16 (by decide) (by decide) (by decide) (by decide) ?_
        refine aw_alo 0 (pcn := 139) rfl dX7_of_138 rfl rfl (rf_some _) ?_
        refine aw_getf (pcn := 142) fl_X7_52 dX7_of_139 rfl hW.mo rfl ?_
        refine aw_ilo 3 (pcn := 143) rfl dX7_of_142 rfl rfl ?_
        refine aw_bipush (v := nI 34) (pcn := 145) dX7_of_143 rfl (by decide) ?_
        refine aw_iaddN (pcn := 146) dX7_of_145 rfl ?_
        refine aw_ialdM (j := 19) (pcn := 147) hW dX7_of_146 rfl (show _ < 2240 by omega) ?_
        exact aw_iret dX7_of_147 rfl ⟨_, rfl, ⟨by rw [ofT_eq hS hc8 hc0 (by assumption), swI_in (by decide) (by decide)]; simp only [ofV, q1, Bool.false_eq_true, Bool.true_eq_false, reduceCtorEq, if_true, if_false, or_false, false_or, or_true, true_or, and_true, true_and, and_false, false_and, not_true_eq_false, not_false_eq_true, or_self, ← Int32.not_le, frT, isCT, isST, isPT, isZT, shiT]; try rfl, rfl⟩⟩
      · refine aw_tsIn (off := 132) (t := 148) dX7_of_16 (by decide) (by decide) (by decide) (by decide) ?_
        refine aw_alo 0 (pcn := 149) rfl dX7_of_148 rfl rfl (rf_some _) ?_
        refine aw_getf (pcn := 152) fl_X7_52 dX7_of_149 rfl hW.mo rfl ?_
        refine aw_ilo 3 (pcn := 153) rfl dX7_of_152 rfl rfl ?_
        refine aw_bipush (v := nI 31) (pcn := 155) dX7_of_153 rfl (by decide) ?_
        refine aw_iaddN (pcn := 156) dX7_of_155 rfl ?_
        refine aw_ialdM (j := 19) (pcn := 157) hW dX7_of_156 rfl (show _ < 2240 by omega) ?_
        exact aw_iret dX7_of_157 rfl ⟨_, rfl, ⟨by rw [ofT_eq hS hc8 hc0 (by assumption), swI_in (by decide) (by decide)]; simp only [ofV, q1, Bool.false_eq_true, Bool.true_eq_false, reduceCtorEq, if_true, if_false, or_false, false_or, or_true, true_or, and_true, true_and, and_false, false_and, not_true_eq_false, not_false_eq_true, or_self, ← Int32.not_le, frT, isCT, isST, isPT, isZT, shiT]; try rfl, rfl⟩⟩
      · refine aw_tsIn (off := 142) (t := 158) dX7_of_16 (by decide) (by decide) (by decide) (by decide) ?_
        refine aw_alo 0 (pcn := 159) rfl dX7_of_158 rfl rfl (rf_some _) ?_
        refine aw_getf (pcn := 162) fl_X7_52 dX7_of_159 rfl hW.mo rfl ?_
        refine aw_ilo 3 (pcn := 163) rfl dX7_of_162 rfl rfl ?_
        refine aw_bipush (v := nI 32) (pcn := 165) dX7_of_163 rfl (by decide) ?_
        refine aw_iaddN (pcn := 166) dX7_of_165 rfl ?_
        refine aw_ialdM (j := 19) (pcn := 167) hW dX7_of_166 rfl (show _ < 2240 by omega) ?_
        exact aw_iret dX7_of_167 rfl ⟨_, rfl, ⟨by rw [ofT_eq hS hc8 hc0 (by assumption), swI_in (by decide) (by decide)]; simp only [ofV, q1, Bool.false_eq_true, Bool.true_eq_false, reduceCtorEq, if_true, if_false, or_false, false_or, or_true, true_or, and_true, true_and, and_false, false_and, not_true_eq_false, not_false_eq_true, or_self, ← Int32.not_le, frT, isCT, isST, isPT, isZT, shiT]; try rfl, rfl⟩⟩
  · refine aw_iconst (v := -1) (pcn := 9) dX7_of_8 rfl (by decide) ?_
    exact aw_iret dX7_of_9 rfl ⟨_, rfl, ⟨by unfold ofT; exact (if_pos q1).symm, rfl⟩⟩

set_option maxHeartbeats 8000000 in
set_option maxRecDepth 20000 in
theorem r_a_count {X : XG} {l : Launch} {Γ : NM} {ow : Nat → Nat × Nat} {h : Hp} {T Tr : TB} {nh : Nat} (hW : WD Γ ow h T Tr nh) {i C n Z hN : Nat} (hI : Iv i Tr C n Z hN) (w : Int32) : AM X l yX7_count cX7_count 2 (some .int) 1 0 0 [.ref (Γ 14 0), .int w] h (qi fun r h' => r = countT Tr C w ∧ h' = h) := by
  refine AM.of (by decide +kernel) (by simp [Value.category]) (Nat.le_of_ble_eq_true rfl) ?_
  show AW X l cX7_count RX7 "count" (some .int) 2 1 none _ 0 0 0 [some (.ref (Γ 14 0)), some (.int w)] [] h
  have h64 := hI.n64
  have h8 := hI.C8
  have h16 := hI.Z16
  have h4 := hI.h4
  refine aw_ilo 1 (pcn := 1) rfl dX7_count_0 rfl rfl ?_
  rcases pk_ix w (n := 7) (by decide) with hsw | hsw | ⟨jj, hj, rfl⟩
  · refine aw_tsOut (t := 79) dX7_count_1 (Or.inl (ts_lo hsw)) (by decide) ?_
    refine aw_iconst (v := -1) (pcn := 80) dX7_count_79 rfl (by decide) ?_
    exact aw_iret dX7_count_80 rfl ⟨_, rfl, ⟨by unfold countT; rw [swI_lo hsw], rfl⟩⟩
  · refine aw_tsOut (t := 79) dX7_count_1 (Or.inr (ts_hi 7 (by decide) hsw)) (by decide) ?_
    refine aw_iconst (v := -1) (pcn := 80) dX7_count_79 rfl (by decide) ?_
    exact aw_iret dX7_count_80 rfl ⟨_, rfl, ⟨by unfold countT; rw [swI_hi hsw], rfl⟩⟩
  · rcases (show jj = 0 ∨ jj = 1 ∨ jj = 2 ∨ jj = 3 ∨ jj = 4 ∨ jj = 5 ∨ jj = 6 by omega) with rfl | rfl | rfl | rfl | rfl | rfl | rfl
    · refine aw_tsIn (off := 43) (t := 44) dX7_count_1 (by decide) (by decide) (by decide) (by decide) ?_
      refine aw_alo 0 (pcn := 45) rfl dX7_count_44 rfl rfl (rf_some _) ?_
      refine aw_getf (pcn := 48) fl_X7_68 dX7_count_45 rfl hW.mo rfl ?_
      exact aw_iret dX7_count_48 rfl ⟨_, rfl, ⟨by unfold countT; rw [swI_in (by decide) (by decide)]; rfl, rfl⟩⟩
    · refine aw_tsIn (off := 48) (t := 49) dX7_count_1 (by decide) (by decide) (by decide) (by decide) ?_
      refine aw_alo 0 (pcn := 50) rfl dX7_count_49 rfl rfl (rf_some _) ?_
      refine aw_getf (pcn := 53) fl_X7_72 dX7_count_50 rfl hW.mo rfl ?_
      exact aw_iret dX7_count_53 rfl ⟨_, rfl, ⟨by unfold countT; rw [swI_in (by decide) (by decide)]; rfl, rfl⟩⟩
    · refine aw_tsIn (off := 53) (t := 54) dX7_count_1 (by decide) (by decide) (by decide) (by decide) ?_
      refine aw_alo 0 (pcn := 55) rfl dX7_count_54 rfl rfl (rf_some _) ?_
      refine aw_getf (pcn := 58) fl_X7_165 dX7_count_55 rfl hW.mo rfl ?_
      exact aw_iret dX7_count_58 rfl ⟨_, rfl, ⟨by unfold countT; rw [swI_in (by decide) (by decide)]; rfl, rfl⟩⟩
    · refine aw_tsIn (off := 58) (t := 59) dX7_count_1 (by decide) (by decide) (by decide) (by decide) ?_
      refine aw_alo 0 (pcn := 60) rfl dX7_count_59 rfl rfl (rf_some _) ?_
      refine aw_getf (pcn := 63) fl_X7_103 dX7_count_60 rfl hW.mo rfl ?_
      exact aw_iret dX7_count_63 rfl ⟨_, rfl, ⟨by unfold countT; rw [swI_in (by decide) (by decide)]; rfl, rfl⟩⟩
    · refine aw_tsIn (off := 63) (t := 64) dX7_count_1 (by decide) (by decide) (by decide) (by decide) ?_
      refine aw_alo 0 (pcn := 65) rfl dX7_count_64 rfl rfl (rf_some _) ?_
      refine aw_getf (pcn := 68) fl_X7_185 dX7_count_65 rfl hW.mo rfl ?_
      exact aw_iret dX7_count_68 rfl ⟨_, rfl, ⟨by unfold countT; rw [swI_in (by decide) (by decide)]; rfl, rfl⟩⟩
    · refine aw_tsIn (off := 68) (t := 69) dX7_count_1 (by decide) (by decide) (by decide) (by decide) ?_
      refine aw_alo 0 (pcn := 70) rfl dX7_count_69 rfl rfl (rf_some _) ?_
      refine aw_getf (pcn := 73) fl_X7_137 dX7_count_70 rfl hW.mo rfl ?_
      exact aw_iret dX7_count_73 rfl ⟨_, rfl, ⟨by unfold countT; rw [swI_in (by decide) (by decide)]; rfl, rfl⟩⟩
    · refine aw_tsIn (off := 73) (t := 74) dX7_count_1 (by decide) (by decide) (by decide) (by decide) ?_
      refine aw_alo 0 (pcn := 75) rfl dX7_count_74 rfl rfl (rf_some _) ?_
      refine aw_Vi (pcn := 78) (r_all hW hI.c5 hI.C8) mf_X7_all mv_X7_all hW.mo rfl ml_X7_191 rfl (by decide) (by decide) (by decide) (by exact Nat.le_of_ble_eq_true rfl) rfl dX7_count_75 rfl (fun r h2 hq => ?_)
      obtain ⟨rfl, hq⟩ := hq
      obtain rfl := hq.symm
      exact aw_iret dX7_count_78 rfl ⟨_, rfl, ⟨by unfold countT; rw [swI_in (by decide) (by decide)]; rfl, rfl⟩⟩

set_option maxHeartbeats 8000000 in
set_option maxRecDepth 20000 in
theorem r_a_share {X : XG} {l : Launch} {Γ : NM} {ow : Nat → Nat × Nat} {h : Hp} {T Tr : TB} {nh : Nat} (hW : WD Γ ow h T Tr nh) {i C n Z hN : Nat} (hI : Iv i Tr C n Z hN) (s f w : Int32) : AM X l yX7_share cX7_share 4 (some .int) 4 0 0 [.ref (Γ 14 0), .int s, .int f, .int w] h (qi fun r h' => r = shareT Tr s f w ∧ h' = h) := by
  refine AM.of (by decide +kernel) (by simp [Value.category]) (Nat.le_of_ble_eq_true rfl) ?_
  show AW X l cX7_share RX7 "share" (some .int) 4 4 none _ 0 0 0 [some (.ref (Γ 14 0)), some (.int s), some (.int f), some (.int w)] [] h
  have h64 := hI.n64
  have h8 := hI.C8
  have h16 := hI.Z16
  have h4 := hI.h4
  refine aw_alo 0 (pcn := 1) rfl dX7_share_0 rfl rfl (rf_some _) ?_
  refine aw_ilo 1 (pcn := 2) rfl dX7_share_1 rfl rfl ?_
  refine aw_ilo 2 (pcn := 3) rfl dX7_share_2 rfl rfl ?_
  refine aw_Vi (pcn := 6) (r_isOf hW hI.oST' _) mf_X7_isOf mv_X7_isOf hW.mo rfl ml_X7_155 rfl (by decide) (by decide) (by decide) (by exact Nat.le_of_ble_eq_true rfl) rfl dX7_share_3 rfl (fun r h2 hq => ?_)
  obtain ⟨rfl, hq⟩ := hq
  obtain rfl := hq.symm
  refine aw_if_eqB (t := 18) (pcn := 9) dX7_share_6 rfl (by decide) (fun q1 => ?_) (fun q1 => ?_)
  · refine aw_iconst (v := -1) (pcn := 19) dX7_share_18 rfl (by decide) ?_
    exact aw_iret dX7_share_19 rfl ⟨_, rfl, ⟨by unfold shareT; first | (simp only [q1, Bool.false_eq_true, Bool.true_eq_false, reduceCtorEq, if_true, if_false, or_false, false_or, or_true, true_or, and_true, true_and, and_false, false_and, not_true_eq_false, not_false_eq_true, or_self, ← Int32.not_le, frT, isCT, isST, isPT, isZT, shiT]; done) | (rw [if_neg (by simp only [q1, Bool.false_eq_true, Bool.true_eq_false, reduceCtorEq, if_true, if_false, or_false, false_or, or_true, true_or, and_true, true_and, and_false, false_and, not_true_eq_false, not_false_eq_true, or_self, ← Int32.not_le, frT, isCT, isST, isPT, isZT, shiT]), ix_nI (by omega), ix_nI (by omega)]; first | (rw [if_pos q1]; done) | (rw [if_neg q1])), rfl⟩⟩
  · obtain ⟨S, c, F, rfl, rfl, hSn, hcC, hF, hc0, hm1⟩ := hI.oOf q1
    have hS : S < 64 := by omega
    have hc8 : c < 8 := by omega
    refine aw_ilo 3 (pcn := 10) rfl dX7_share_9 rfl rfl ?_
    refine aw_iconst (v := nI 0) (pcn := 11) dX7_share_10 rfl (by decide) ?_
    refine aw_iconst (v := nI 1) (pcn := 12) dX7_share_11 rfl (by decide) ?_
    refine aw_Si (pcn := 15) (r_isIn _ _ _) mf_X7_isIn mv_X7_isIn ml_X7_64 rfl (by decide) (by decide) (by decide) (by exact Nat.le_of_ble_eq_true rfl) rfl dX7_share_12 rfl (fun r h2 hq => ?_)
    obtain ⟨rfl, hq⟩ := hq
    obtain rfl := hq.symm
    refine aw_if_neB (t := 20) (pcn := 18) dX7_share_15 rfl (by decide) (fun q2 => ?_) (fun q2 => ?_)
    · refine aw_alo 0 (pcn := 21) rfl dX7_share_20 rfl rfl (rf_some _) ?_
      refine aw_getf (pcn := 24) fl_X7_52 dX7_share_21 rfl hW.mo rfl ?_
      refine aw_bipush (v := nI 35) (pcn := 26) dX7_share_24 rfl (by decide) ?_
      refine aw_ilo 1 (pcn := 27) rfl dX7_share_26 rfl rfl ?_
      refine aw_imulN (pcn := 28) dX7_share_27 rfl ?_
      refine aw_ilo 3 (pcn := 29) rfl dX7_share_28 rfl rfl ?_
      refine aw_if_ne (t := 36) (pcn := 32) dX7_share_29 rfl (by decide) (fun q3 => ?_) (fun q3 => ?_)
      · refine aw_bipush (v := nI 10) (pcn := 38) dX7_share_36 rfl (by decide) ?_
        refine aw_iaddN (pcn := 39) dX7_share_38 rfl ?_
        refine aw_ilo 2 (pcn := 40) rfl dX7_share_39 rfl rfl ?_
        refine aw_iaddN (pcn := 41) dX7_share_40 rfl ?_
        refine aw_ialdM (j := 19) (pcn := 42) hW dX7_share_41 rfl (show _ < 2240 by omega) ?_
        exact aw_iret dX7_share_42 rfl ⟨_, rfl, ⟨by unfold shareT; first | (simp only [q1, q2, q3, Bool.false_eq_true, Bool.true_eq_false, reduceCtorEq, if_true, if_false, or_false, false_or, or_true, true_or, and_true, true_and, and_false, false_and, not_true_eq_false, not_false_eq_true, or_self, ← Int32.not_le, frT, isCT, isST, isPT, isZT, shiT]; done) | (rw [if_neg (by simp only [q1, q2, Bool.false_eq_true, Bool.true_eq_false, reduceCtorEq, if_true, if_false, or_false, false_or, or_true, true_or, and_true, true_and, and_false, false_and, not_true_eq_false, not_false_eq_true, or_self, ← Int32.not_le, frT, isCT, isST, isPT, isZT, shiT]), ix_nI (by omega), ix_nI (by omega)]; first | (rw [if_pos q3]; done) | (rw [if_neg q3])), rfl⟩⟩
      · refine aw_iconst (v := nI 4) (pcn := 33) dX7_share_32 rfl (by decide) ?_
        refine aw_goto (t := 38) dX7_share_33 (by decide) ?_
        refine aw_iaddN (pcn := 39) dX7_share_38 rfl ?_
        refine aw_ilo 2 (pcn := 40) rfl dX7_share_39 rfl rfl ?_
        refine aw_iaddN (pcn := 41) dX7_share_40 rfl ?_
        refine aw_ialdM (j := 19) (pcn := 42) hW dX7_share_41 rfl (show _ < 2240 by omega) ?_
        exact aw_iret dX7_share_42 rfl ⟨_, rfl, ⟨by unfold shareT; first | (simp only [q1, q2, q3, Bool.false_eq_true, Bool.true_eq_false, reduceCtorEq, if_true, if_false, or_false, false_or, or_true, true_or, and_true, true_and, and_false, false_and, not_true_eq_false, not_false_eq_true, or_self, ← Int32.not_le, frT, isCT, isST, isPT, isZT, shiT]; done) | (rw [if_neg (by simp only [q1, q2, Bool.false_eq_true, Bool.true_eq_false, reduceCtorEq, if_true, if_false, or_false, false_or, or_true, true_or, and_true, true_and, and_false, false_and, not_true_eq_false, not_false_eq_true, or_self, ← Int32.not_le, frT, isCT, isST, isPT, isZT, shiT]), ix_nI (by omega), ix_nI (by omega)]; first | (rw [if_pos q3]; done) | (rw [if_neg q3])), rfl⟩⟩
    · refine aw_iconst (v := -1) (pcn := 19) dX7_share_18 rfl (by decide) ?_
      exact aw_iret dX7_share_19 rfl ⟨_, rfl, ⟨by unfold shareT; first | (simp only [q1, q2, Bool.false_eq_true, Bool.true_eq_false, reduceCtorEq, if_true, if_false, or_false, false_or, or_true, true_or, and_true, true_and, and_false, false_and, not_true_eq_false, not_false_eq_true, or_self, ← Int32.not_le, frT, isCT, isST, isPT, isZT, shiT]; done) | (rw [if_neg (by simp only [q1, q2, Bool.false_eq_true, Bool.true_eq_false, reduceCtorEq, if_true, if_false, or_false, false_or, or_true, true_or, and_true, true_and, and_false, false_and, not_true_eq_false, not_false_eq_true, or_self, ← Int32.not_le, frT, isCT, isST, isPT, isZT, shiT]), ix_nI (by omega), ix_nI (by omega)]; first | (rw [if_pos q2]; done) | (rw [if_neg q2])), rfl⟩⟩

set_option maxHeartbeats 8000000 in
set_option maxRecDepth 20000 in
theorem r_a_locked {X : XG} {l : Launch} {Γ : NM} {ow : Nat → Nat × Nat} {h : Hp} {T Tr : TB} {nh : Nat} (hW : WD Γ ow h T Tr nh) {i C n Z hN : Nat} (hI : Iv i Tr C n Z hN) (s p w : Int32) : AM X l yX7_locked cX7_locked 5 (some .int) 3 0 0 [.ref (Γ 14 0), .int s, .int p, .int w] h (qi fun r h' => r = lockedT Tr s p w ∧ h' = h) := by
  refine AM.of (by decide +kernel) (by simp [Value.category]) (Nat.le_of_ble_eq_true rfl) ?_
  show AW X l cX7_locked RX7 "locked" (some .int) 5 3 none _ 0 0 0 [some (.ref (Γ 14 0)), some (.int s), some (.int p), some (.int w), none] [] h
  have h64 := hI.n64
  have h8 := hI.C8
  have h16 := hI.Z16
  have h4 := hI.h4
  refine aw_alo 0 (pcn := 1) rfl dX7_locked_0 rfl rfl (rf_some _) ?_
  refine aw_ilo 1 (pcn := 2) rfl dX7_locked_1 rfl rfl ?_
  refine aw_ilo 2 (pcn := 3) rfl dX7_locked_2 rfl rfl ?_
  refine aw_Vi (pcn := 6) (r_isLock hW hI.n18 hI.n64 _) mf_X7_isLock mv_X7_isLock hW.mo rfl ml_X7_176 rfl (by decide) (by decide) (by decide) (by exact Nat.le_of_ble_eq_true rfl) rfl dX7_locked_3 rfl (fun r h2 hq => ?_)
  obtain ⟨rfl, hq⟩ := hq
  obtain rfl := hq.symm
  refine aw_if_eqB (t := 18) (pcn := 9) dX7_locked_6 rfl (by decide) (fun q1 => ?_) (fun q1 => ?_)
  · have hor : isST Tr s = false ∨ isLT Tr (ix s) p = false := by
      have := q1
      cases h1 : isST Tr s
      · exact Or.inl rfl
      · rw [h1, Bool.true_and] at this; exact Or.inr this
    refine aw_iconst (v := -1) (pcn := 19) dX7_locked_18 rfl (by decide) ?_
    exact aw_iret dX7_locked_19 rfl ⟨_, rfl, ⟨by unfold lockedT; first | (rw [if_pos (Or.inl hor)]; done) | (rw [if_pos (Or.inr (by assumption))]; done) | (rw [if_neg (by simp only [ix_nI (show S < 2 ^ 31 by omega), hqq.1, hl2, q1, Bool.false_eq_true, Bool.true_eq_false, reduceCtorEq, if_true, if_false, or_false, false_or, or_true, true_or, not_true_eq_false, not_false_eq_true, or_self]), ix_nI (by omega), ix_nI (by omega)]; simp only [q1, Bool.false_eq_true, Bool.true_eq_false, reduceCtorEq, if_true, if_false, or_false, false_or, or_true, true_or, and_true, true_and, and_false, false_and, not_true_eq_false, not_false_eq_true, or_self, ← Int32.not_le, frT, isCT, isST, isPT, isZT, shiT]; try (first | rfl | (rw [ix_nI (by omega)]))), rfl⟩⟩
  · have hqq := q1
    rw [Bool.and_eq_true] at hqq
    obtain ⟨S, c, rfl, hSn, hcC, hc0⟩ := hI.oST hqq.1
    have hS : S < 64 := by omega
    have hc8 : c < 8 := by omega
    have hl2 := hqq.2
    rw [ix_nI (by omega)] at hl2
    obtain ⟨K, hK, rfl, hl3⟩ := isLT_nI hl2
    refine aw_ilo 3 (pcn := 10) rfl dX7_locked_9 rfl rfl ?_
    refine aw_iconst (v := nI 0) (pcn := 11) dX7_locked_10 rfl (by decide) ?_
    refine aw_iconst (v := nI 4) (pcn := 12) dX7_locked_11 rfl (by decide) ?_
    refine aw_Si (pcn := 15) (r_isIn _ _ _) mf_X7_isIn mv_X7_isIn ml_X7_64 rfl (by decide) (by decide) (by decide) (by exact Nat.le_of_ble_eq_true rfl) rfl dX7_locked_12 rfl (fun r h2 hq => ?_)
    obtain ⟨rfl, hq⟩ := hq
    obtain rfl := hq.symm
    refine aw_if_neB (t := 20) (pcn := 18) dX7_locked_15 rfl (by decide) (fun q2 => ?_) (fun q2 => ?_)
    · refine aw_ilo 1 (pcn := 21) rfl dX7_locked_20 rfl rfl ?_
      refine aw_ilo 2 (pcn := 22) rfl dX7_locked_21 rfl rfl ?_
      refine aw_Si (pcn := 25) (r_lockAt _ _) mf_X7_lockAt mv_X7_lockAt ml_X7_93 rfl (by decide) (by decide) (by decide) (by exact Nat.le_of_ble_eq_true rfl) rfl dX7_locked_22 rfl (fun r h2 hq => ?_)
      obtain ⟨rfl, hq⟩ := hq
      obtain rfl := hq.symm
      refine aw_istore (pcn := 27) dX7_locked_25 rfl (by decide) ?_
      dsimp only [List.set_cons_zero, List.set_cons_succ]
      refine aw_ilo 3 (pcn := 28) rfl dX7_locked_27 rfl rfl ?_
      refine aw_if_ne (t := 43) (pcn := 31) dX7_locked_28 rfl (by decide) (fun q3 => ?_) (fun q3 => ?_)
      · refine aw_ilo 3 (pcn := 44) rfl dX7_locked_43 rfl rfl ?_
        refine aw_iconst (v := nI 1) (pcn := 45) dX7_locked_44 rfl (by decide) ?_
        refine aw_icmp_ne (t := 60) (pcn := 48) dX7_locked_45 rfl (by decide) (fun q4 => ?_) (fun q4 => ?_)
        · refine aw_ilo 3 (pcn := 61) rfl dX7_locked_60 rfl rfl ?_
          refine aw_iconst (v := nI 2) (pcn := 62) dX7_locked_61 rfl (by decide) ?_
          refine aw_icmp_ne (t := 77) (pcn := 65) dX7_locked_62 rfl (by decide) (fun q5 => ?_) (fun q5 => ?_)
          · refine aw_alo 0 (pcn := 78) rfl dX7_locked_77 rfl rfl (rf_some _) ?_
            refine aw_getf (pcn := 81) fl_X7_52 dX7_locked_78 rfl hW.mo rfl ?_
            refine aw_iload (pcn := 83) dX7_locked_81 rfl rfl ?_
            refine aw_ilo 3 (pcn := 84) rfl dX7_locked_83 rfl rfl ?_
            obtain ⟨W, hW4, rfl⟩ := inR_nI (v := w) (b := 4) (by decide) (by assumption)
            refine aw_iaddN (pcn := 85) dX7_locked_84 rfl ?_
            refine aw_ialdM (j := 19) (pcn := 86) hW dX7_locked_85 rfl (show _ < 2240 by omega) ?_
            exact aw_iret dX7_locked_86 rfl ⟨_, rfl, ⟨by unfold lockedT; first | (rw [if_pos (Or.inl hor)]; done) | (rw [if_pos (Or.inr (by assumption))]; done) | (rw [if_neg (by simp only [ix_nI (show S < 2 ^ 31 by omega), hqq.1, hl2, q2, Bool.false_eq_true, Bool.true_eq_false, reduceCtorEq, if_true, if_false, or_false, false_or, or_true, true_or, not_true_eq_false, not_false_eq_true, or_self]), ix_nI (by omega), ix_nI (by omega)]; simp only [q1, q2, q3, q4, q5, Bool.false_eq_true, Bool.true_eq_false, reduceCtorEq, if_true, if_false, or_false, false_or, or_true, true_or, and_true, true_and, and_false, false_and, not_true_eq_false, not_false_eq_true, or_self, ← Int32.not_le, frT, isCT, isST, isPT, isZT, shiT]; try (first | rfl | (rw [ix_nI (by omega)]))), rfl⟩⟩
          · refine aw_alo 0 (pcn := 66) rfl dX7_locked_65 rfl rfl (rf_some _) ?_
            refine aw_getf (pcn := 69) fl_X7_52 dX7_locked_66 rfl hW.mo rfl ?_
            refine aw_iload (pcn := 71) dX7_locked_69 rfl rfl ?_
            refine aw_iconst (v := nI 0) (pcn := 72) dX7_locked_71 rfl (by decide) ?_
            refine aw_iaddN (pcn := 73) dX7_locked_72 rfl ?_
            refine aw_ialdM (j := 19) (pcn := 74) hW dX7_locked_73 rfl (show _ < 2240 by omega) ?_
            refine aw_goto (t := 86) dX7_locked_74 (by decide) ?_
            exact aw_iret dX7_locked_86 rfl ⟨_, rfl, ⟨by unfold lockedT; first | (rw [if_pos (Or.inl hor)]; done) | (rw [if_pos (Or.inr (by assumption))]; done) | (rw [if_neg (by simp only [ix_nI (show S < 2 ^ 31 by omega), hqq.1, hl2, q2, Bool.false_eq_true, Bool.true_eq_false, reduceCtorEq, if_true, if_false, or_false, false_or, or_true, true_or, not_true_eq_false, not_false_eq_true, or_self]), ix_nI (by omega), ix_nI (by omega)]; simp only [q1, q2, q3, q4, q5, Bool.false_eq_true, Bool.true_eq_false, reduceCtorEq, if_true, if_false, or_false, false_or, or_true, true_or, and_true, true_and, and_false, false_and, not_true_eq_false, not_false_eq_true, or_self, ← Int32.not_le, frT, isCT, isST, isPT, isZT, shiT]; try (first | rfl | (rw [ix_nI (by omega)]))), rfl⟩⟩
        · refine aw_alo 0 (pcn := 49) rfl dX7_locked_48 rfl rfl (rf_some _) ?_
          refine aw_getf (pcn := 52) fl_X7_52 dX7_locked_49 rfl hW.mo rfl ?_
          refine aw_iload (pcn := 54) dX7_locked_52 rfl rfl ?_
          refine aw_iconst (v := nI 2) (pcn := 55) dX7_locked_54 rfl (by decide) ?_
          refine aw_iaddN (pcn := 56) dX7_locked_55 rfl ?_
          refine aw_ialdM (j := 19) (pcn := 57) hW dX7_locked_56 rfl (show _ < 2240 by omega) ?_
          refine aw_goto (t := 86) dX7_locked_57 (by decide) ?_
          exact aw_iret dX7_locked_86 rfl ⟨_, rfl, ⟨by unfold lockedT; first | (rw [if_pos (Or.inl hor)]; done) | (rw [if_pos (Or.inr (by assumption))]; done) | (rw [if_neg (by simp only [ix_nI (show S < 2 ^ 31 by omega), hqq.1, hl2, q2, Bool.false_eq_true, Bool.true_eq_false, reduceCtorEq, if_true, if_false, or_false, false_or, or_true, true_or, not_true_eq_false, not_false_eq_true, or_self]), ix_nI (by omega), ix_nI (by omega)]; simp only [q1, q2, q3, q4, Bool.false_eq_true, Bool.true_eq_false, reduceCtorEq, if_true, if_false, or_false, false_or, or_true, true_or, and_true, true_and, and_false, false_and, not_true_eq_false, not_false_eq_true, or_self, ← Int32.not_le, frT, isCT, isST, isPT, isZT, shiT]; try (first | rfl | (rw [ix_nI (by omega)]))), rfl⟩⟩
      · refine aw_alo 0 (pcn := 32) rfl dX7_locked_31 rfl rfl (rf_some _) ?_
        refine aw_getf (pcn := 35) fl_X7_52 dX7_locked_32 rfl hW.mo rfl ?_
        refine aw_iload (pcn := 37) dX7_locked_35 rfl rfl ?_
        refine aw_iconst (v := nI 1) (pcn := 38) dX7_locked_37 rfl (by decide) ?_
        refine aw_iaddN (pcn := 39) dX7_locked_38 rfl ?_
        refine aw_ialdM (j := 19) (pcn := 40) hW dX7_locked_39 rfl (show _ < 2240 by omega) ?_
        refine aw_goto (t := 86) dX7_locked_40 (by decide) ?_
        exact aw_iret dX7_locked_86 rfl ⟨_, rfl, ⟨by unfold lockedT; first | (rw [if_pos (Or.inl hor)]; done) | (rw [if_pos (Or.inr (by assumption))]; done) | (rw [if_neg (by simp only [ix_nI (show S < 2 ^ 31 by omega), hqq.1, hl2, q2, Bool.false_eq_true, Bool.true_eq_false, reduceCtorEq, if_true, if_false, or_false, false_or, or_true, true_or, not_true_eq_false, not_false_eq_true, or_self]), ix_nI (by omega), ix_nI (by omega)]; simp only [q1, q2, q3, Bool.false_eq_true, Bool.true_eq_false, reduceCtorEq, if_true, if_false, or_false, false_or, or_true, true_or, and_true, true_and, and_false, false_and, not_true_eq_false, not_false_eq_true, or_self, ← Int32.not_le, frT, isCT, isST, isPT, isZT, shiT]; try (first | rfl | (rw [ix_nI (by omega)]))), rfl⟩⟩
    · refine aw_iconst (v := -1) (pcn := 19) dX7_locked_18 rfl (by decide) ?_
      exact aw_iret dX7_locked_19 rfl ⟨_, rfl, ⟨by unfold lockedT; first | (rw [if_pos (Or.inl hor)]; done) | (rw [if_pos (Or.inr (by assumption))]; done) | (rw [if_neg (by simp only [ix_nI (show S < 2 ^ 31 by omega), hqq.1, hl2, q2, Bool.false_eq_true, Bool.true_eq_false, reduceCtorEq, if_true, if_false, or_false, false_or, or_true, true_or, not_true_eq_false, not_false_eq_true, or_self]), ix_nI (by omega), ix_nI (by omega)]; simp only [q1, q2, Bool.false_eq_true, Bool.true_eq_false, reduceCtorEq, if_true, if_false, or_false, false_or, or_true, true_or, and_true, true_and, and_false, false_and, not_true_eq_false, not_false_eq_true, or_self, ← Int32.not_le, frT, isCT, isST, isPT, isZT, shiT]; try (first | rfl | (rw [ix_nI (by omega)]))), rfl⟩⟩

set_option maxHeartbeats 8000000 in
set_option maxRecDepth 20000 in
theorem r_a_knows {X : XG} {l : Launch} {Γ : NM} {ow : Nat → Nat × Nat} {h : Hp} {T Tr : TB} {nh : Nat} (hW : WD Γ ow h T Tr nh) {i C n Z hN : Nat} (hI : Iv i Tr C n Z hN) (z : Int32) : AM X l yX7_knows cX7_knows 2 (some .int) 1 0 0 [.ref (Γ 14 0), .int z] h (qi fun r h' => r = knowsT Tr z ∧ h' = h) := by
  refine AM.of (by decide +kernel) (by simp [Value.category]) (Nat.le_of_ble_eq_true rfl) ?_
  show AW X l cX7_knows RX7 "knows" (some .int) 2 1 none _ 0 0 0 [some (.ref (Γ 14 0)), some (.int z)] [] h
  have h64 := hI.n64
  have h8 := hI.C8
  have h16 := hI.Z16
  have h4 := hI.h4
  refine aw_ilo 1 (pcn := 1) rfl dX7_knows_0 rfl rfl ?_
  refine aw_iconst (v := nI 0) (pcn := 2) dX7_knows_1 rfl (by decide) ?_
  refine aw_alo 0 (pcn := 3) rfl dX7_knows_2 rfl rfl (rf_some _) ?_
  refine aw_getf (pcn := 6) fl_X7_165 dX7_knows_3 rfl hW.mo rfl ?_
  refine aw_iconst (v := nI 1) (pcn := 7) dX7_knows_6 rfl (by decide) ?_
  refine aw_isub (pcn := 8) dX7_knows_7 rfl ?_
  refine aw_Si (pcn := 11) (r_isIn _ _ _) mf_X7_isIn mv_X7_isIn ml_X7_64 rfl (by decide) (by decide) (by decide) (by exact Nat.le_of_ble_eq_true rfl) rfl dX7_knows_8 rfl (fun r h2 hq => ?_)
  obtain ⟨rfl, hq⟩ := hq
  obtain rfl := hq.symm
  refine aw_if_eqB (t := 23) (pcn := 14) dX7_knows_11 rfl (by decide) (fun q1 => ?_) (fun q1 => ?_)
  · refine aw_iconst (v := -1) (pcn := 24) dX7_knows_23 rfl (by decide) ?_
    exact aw_iret dX7_knows_24 rfl ⟨_, rfl, ⟨by unfold knowsT; first | (rw [if_pos (by assumption)]; done) | (rw [if_neg (by simp only [isZT] at *; simp [*]), ix_nI (by omega)]), rfl⟩⟩
  · obtain ⟨K, hK, rfl⟩ := oZ hI q1
    refine aw_alo 0 (pcn := 15) rfl dX7_knows_14 rfl rfl (rf_some _) ?_
    refine aw_getf (pcn := 18) fl_X7_13 dX7_knows_15 rfl hW.mo rfl ?_
    refine aw_ilo 1 (pcn := 19) rfl dX7_knows_18 rfl rfl ?_
    refine aw_ialdM (j := 4) (pcn := 20) hW dX7_knows_19 rfl (show _ < 16 by omega) ?_
    refine aw_goto (t := 24) dX7_knows_20 (by decide) ?_
    exact aw_iret dX7_knows_24 rfl ⟨_, rfl, ⟨by unfold knowsT; first | (rw [if_pos (by assumption)]; done) | (rw [if_neg (by simp only [isZT] at *; simp [*]), ix_nI (by omega)]), rfl⟩⟩

set_option maxHeartbeats 8000000 in
set_option maxRecDepth 20000 in
theorem r_a_state {X : XG} {l : Launch} {Γ : NM} {ow : Nat → Nat × Nat} {h : Hp} {T Tr : TB} {nh : Nat} (hW : WD Γ ow h T Tr nh) {i C n Z hN : Nat} (hI : Iv i Tr C n Z hN) (k : Int32) : AM X l yX7_state cX7_state 2 (some .int) 5 0 0 [.ref (Γ 14 0), .int k] h (qi fun r h' => r = (stateT Tr n k).1 ∧ WD Γ ow h' T (stateT Tr n k).2 nh) := by
  refine AM.of (by decide +kernel) (by simp [Value.category]) (Nat.le_of_ble_eq_true rfl) ?_
  show AW X l cX7_state RX7 "state" (some .int) 2 5 none _ 0 0 0 [some (.ref (Γ 14 0)), some (.int k)] [] h
  have h64 := hI.n64
  have h8 := hI.C8
  have h16 := hI.Z16
  have h4 := hI.h4
  refine aw_alo 0 (pcn := 1) rfl dX7_state_0 rfl rfl (rf_some _) ?_
  refine aw_ilo 1 (pcn := 2) rfl dX7_state_1 rfl rfl ?_
  refine aw_Vi (pcn := 5) (r_isChannel hW _) mf_X7_isChannel mv_X7_isChannel hW.mo rfl ml_X7_149 rfl (by decide) (by decide) (by decide) (by exact Nat.le_of_ble_eq_true rfl) rfl dX7_state_2 rfl (fun r h2 hq => ?_)
  obtain ⟨rfl, hq⟩ := hq
  obtain rfl := hq.symm
  refine aw_if_neB (t := 10) (pcn := 8) dX7_state_5 rfl (by decide) (fun q1 => ?_) (fun q1 => ?_)
  · obtain ⟨c, rfl, hcC⟩ := hI.oCT q1
    have hc8 : c < 8 := by omega
    refine aw_alo 0 (pcn := 11) rfl dX7_state_10 rfl rfl (rf_some _) ?_
    refine aw_getf (pcn := 14) fl_X7_25 dX7_state_11 rfl hW.mo rfl ?_
    refine aw_ilo 1 (pcn := 15) rfl dX7_state_14 rfl rfl ?_
    refine aw_ialdM (j := 9) (pcn := 16) hW dX7_state_15 rfl (show _ < 8 by omega) ?_
    refine aw_iconst (v := nI 3) (pcn := 17) dX7_state_16 rfl (by decide) ?_
    refine aw_icmp_ne (t := 23) (pcn := 20) dX7_state_17 rfl (by decide) (fun q2 => ?_) (fun q2 => ?_)
    · refine aw_alo 0 (pcn := 24) rfl dX7_state_23 rfl rfl (rf_some _) ?_
      refine aw_getf (pcn := 27) fl_X7_72 dX7_state_24 rfl hW.mo rfl ?_
      refine aw_bipush (v := nI 64) (pcn := 29) dX7_state_27 rfl (by decide) ?_
      refine aw_icmp_ne (t := 37) (pcn := 32) dX7_state_29 rfl (by decide) (fun q3 => ?_) (fun q3 => ?_)
      · have hn : n < 64 := by
          rcases Nat.lt_or_ge n 64 with e | e
          · exact e
          · exact absurd (by rw [hI.n18, show n = 64 by omega]) q3
        obtain ⟨hnw, hs0⟩ := hI.nw hcC q2
        refine aw_alo 0 (pcn := 38) rfl dX7_state_37 rfl rfl (rf_some _) ?_
        refine aw_ilo 1 (pcn := 39) rfl dX7_state_38 rfl rfl ?_
        refine aw_Vi (pcn := 42) (r_copied hW (c := c) (n := n) (s0 := ix (nwT Tr c n)) hc8 hI.n18 hn hnw hs0) mf_X7_copied mv_X7_copied hW.mo rfl ml_X7_152 rfl (by decide) (by decide) (by decide) (by exact Nat.le_of_ble_eq_true rfl) rfl dX7_state_39 rfl (fun r h hq => ?_)
        obtain ⟨rfl, hW⟩ := hq
        exact aw_iret dX7_state_42 rfl ⟨_, rfl, ret2 (by first | (simp only [stateT, q1, q2, q3, Bool.false_eq_true, Bool.true_eq_false, reduceCtorEq, if_true, if_false, or_false, false_or, or_true, true_or, and_true, true_and, and_false, false_and, not_true_eq_false, not_false_eq_true, or_self, ← Int32.not_le, frT, isCT, isST, isPT, isZT, shiT]; done) | (rw [stateT_eq hc8 (by assumption)]; simp only [q1, q2, q3, Bool.false_eq_true, Bool.true_eq_false, reduceCtorEq, if_true, if_false, or_false, false_or, or_true, true_or, and_true, true_and, and_false, false_and, not_true_eq_false, not_false_eq_true, or_self, ← Int32.not_le, frT, isCT, isST, isPT, isZT, shiT]; done) | (rw [stateT_eq hc8 (by assumption)]; simp only [q1, q2, q3, Bool.false_eq_true, Bool.true_eq_false, reduceCtorEq, if_true, if_false, or_false, false_or, or_true, true_or, and_true, true_and, and_false, false_and, not_true_eq_false, not_false_eq_true, or_self, ← Int32.not_le, frT, isCT, isST, isPT, isZT, shiT]; rfl) | (rw [stateT_eq hc8 (by assumption)]; rfl)) (hW)⟩
      · refine aw_bipush (v := -4) (pcn := 34) dX7_state_32 rfl (by decide) ?_
        refine aw_goto (t := 42) dX7_state_34 (by decide) ?_
        exact aw_iret dX7_state_42 rfl ⟨_, rfl, ret2 (by first | (simp only [stateT, q1, q2, q3, Bool.false_eq_true, Bool.true_eq_false, reduceCtorEq, if_true, if_false, or_false, false_or, or_true, true_or, and_true, true_and, and_false, false_and, not_true_eq_false, not_false_eq_true, or_self, ← Int32.not_le, frT, isCT, isST, isPT, isZT, shiT]; done) | (rw [stateT_eq hc8 (by assumption)]; simp only [q1, q2, q3, Bool.false_eq_true, Bool.true_eq_false, reduceCtorEq, if_true, if_false, or_false, false_or, or_true, true_or, and_true, true_and, and_false, false_and, not_true_eq_false, not_false_eq_true, or_self, ← Int32.not_le, frT, isCT, isST, isPT, isZT, shiT]; done) | (rw [stateT_eq hc8 (by assumption)]; simp only [q1, q2, q3, Bool.false_eq_true, Bool.true_eq_false, reduceCtorEq, if_true, if_false, or_false, false_or, or_true, true_or, and_true, true_and, and_false, false_and, not_true_eq_false, not_false_eq_true, or_self, ← Int32.not_le, frT, isCT, isST, isPT, isZT, shiT]; rfl) | (rw [stateT_eq hc8 (by assumption)]; rfl)) (hW)⟩
    · refine aw_bipush (v := -2) (pcn := 22) dX7_state_20 rfl (by decide) ?_
      exact aw_iret dX7_state_22 rfl ⟨_, rfl, ret2 (by first | (simp only [stateT, q1, q2, Bool.false_eq_true, Bool.true_eq_false, reduceCtorEq, if_true, if_false, or_false, false_or, or_true, true_or, and_true, true_and, and_false, false_and, not_true_eq_false, not_false_eq_true, or_self, ← Int32.not_le, frT, isCT, isST, isPT, isZT, shiT]; done) | (rw [stateT_eq hc8 (by assumption)]; simp only [q1, q2, Bool.false_eq_true, Bool.true_eq_false, reduceCtorEq, if_true, if_false, or_false, false_or, or_true, true_or, and_true, true_and, and_false, false_and, not_true_eq_false, not_false_eq_true, or_self, ← Int32.not_le, frT, isCT, isST, isPT, isZT, shiT]; done) | (rw [stateT_eq hc8 (by assumption)]; simp only [q1, q2, Bool.false_eq_true, Bool.true_eq_false, reduceCtorEq, if_true, if_false, or_false, false_or, or_true, true_or, and_true, true_and, and_false, false_and, not_true_eq_false, not_false_eq_true, or_self, ← Int32.not_le, frT, isCT, isST, isPT, isZT, shiT]; rfl) | (rw [stateT_eq hc8 (by assumption)]; rfl)) (hW)⟩
  · refine aw_iconst (v := -1) (pcn := 9) dX7_state_8 rfl (by decide) ?_
    exact aw_iret dX7_state_9 rfl ⟨_, rfl, ret2 (by first | (simp only [stateT, q1, Bool.false_eq_true, Bool.true_eq_false, reduceCtorEq, if_true, if_false, or_false, false_or, or_true, true_or, and_true, true_and, and_false, false_and, not_true_eq_false, not_false_eq_true, or_self, ← Int32.not_le, frT, isCT, isST, isPT, isZT, shiT]; done) | (rw [stateT_eq hc8 (by assumption)]; simp only [q1, Bool.false_eq_true, Bool.true_eq_false, reduceCtorEq, if_true, if_false, or_false, false_or, or_true, true_or, and_true, true_and, and_false, false_and, not_true_eq_false, not_false_eq_true, or_self, ← Int32.not_le, frT, isCT, isST, isPT, isZT, shiT]; done) | (rw [stateT_eq hc8 (by assumption)]; simp only [q1, Bool.false_eq_true, Bool.true_eq_false, reduceCtorEq, if_true, if_false, or_false, false_or, or_true, true_or, and_true, true_and, and_false, false_and, not_true_eq_false, not_false_eq_true, or_self, ← Int32.not_le, frT, isCT, isST, isPT, isZT, shiT]; rfl) | (rw [stateT_eq hc8 (by assumption)]; rfl)) (hW)⟩
