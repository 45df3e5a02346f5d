/-! the reference's hop and pay -/
set_option maxHeartbeats 8000000 in
set_option maxRecDepth 20000 in
theorem r_a_hop {X : XG} {l : Launch} {Γ : NM} {ow : Nat → Nat × Nat} {h : Hp} {T Tr : TB} {nh : Nat} (hW : WD Γ ow h T Tr nh) {i C n Z hN : Nat} (hI : Iv i Tr C n Z hN) (cc f t : Int32) : AM X l yX7_hop cX7_hop 6 (some .int) 3 0 0 [.ref (Γ 14 0), .int cc, .int f, .int t] h (qi fun r h' => r = (hopT Tr hN cc f t).1 ∧ WD Γ ow h' T (hopT Tr hN cc f t).2 nh) := by
  refine AM.of (by decide +kernel) (by simp [Value.category]) (Nat.le_of_ble_eq_true rfl) ?_
  show AW X l cX7_hop RX7 "hop" (some .int) 6 3 none _ 0 0 0 [some (.ref (Γ 14 0)), some (.int cc), some (.int f), some (.int t), none, none] [] h
  have h64 := hI.n64
  have h8 := hI.C8
  have h16 := hI.Z16
  have h4 := hI.h4
  have eh1 : (hN = 4) = (nI hN = nI 4) := by rw [nI_eq (by omega) (by decide)]
  have eh2 : (0 < hN) = ¬ (nI hN ≤ 0) := by
    rw [← nI_0, nI_leI (by omega) (by decide)]
    exact propext (by omega)
  refine aw_alo 0 (pcn := 1) rfl dX7_hop_0 rfl rfl (rf_some _) ?_
  refine aw_ilo 1 (pcn := 2) rfl dX7_hop_1 rfl rfl ?_
  refine aw_Vi (pcn := 5) (r_isChannel hW _) mf_X7_isChannel mv_X7_isChannel hW.mo rfl ml_X7_149 rfl (by decide) (by decide) (by decide) (by exact Nat.le_of_ble_eq_true rfl) rfl dX7_hop_2 rfl (fun r h2 hq => ?_)
  obtain ⟨rfl, hq⟩ := hq
  obtain rfl := hq.symm
  refine aw_if_eqB (t := 26) (pcn := 8) dX7_hop_5 rfl (by decide) (fun q1 => ?_) (fun q1 => ?_)
  · refine aw_iconst (v := -1) (pcn := 27) dX7_hop_26 rfl (by decide) ?_
    exact aw_iret dX7_hop_27 rfl ⟨_, rfl, ret2 (by first | (simp only [hopT, q1, eh1, eh2, Bool.false_eq_true, Bool.true_eq_false, reduceCtorEq, if_true, if_false, or_false, false_or, or_true, true_or, and_true, true_and, and_false, false_and, not_true_eq_false, not_false_eq_true, or_self, ← Int32.not_le, frT, isCT, isST, isPT, isZT, shiT]; done) | (rw [hopT_eq hc8 (by assumption) (by assumption) (by assumption)]; simp only [q1, eh1, eh2, Bool.false_eq_true, Bool.true_eq_false, reduceCtorEq, if_true, if_false, or_false, false_or, or_true, true_or, and_true, true_and, and_false, false_and, not_true_eq_false, not_false_eq_true, or_self, ← Int32.not_le, frT, isCT, isST, isPT, isZT, shiT]; done) | (rw [hopT_eq hc8 (by assumption) (by assumption) (by assumption)]; simp only [q1, eh1, eh2, Bool.false_eq_true, Bool.true_eq_false, reduceCtorEq, if_true, if_false, or_false, false_or, or_true, true_or, and_true, true_and, and_false, false_and, not_true_eq_false, not_false_eq_true, or_self, ← Int32.not_le, frT, isCT, isST, isPT, isZT, shiT]; rfl) | (rw [hopT_eq hc8 (by assumption) (by assumption) (by assumption)]; rfl)) hW⟩
  · obtain ⟨c, rfl, hcC⟩ := hI.oCT q1
    have hc8 : c < 8 := by omega
    refine aw_alo 0 (pcn := 9) rfl dX7_hop_8 rfl rfl (rf_some _) ?_
    refine aw_ilo 1 (pcn := 10) rfl dX7_hop_9 rfl rfl ?_
    refine aw_ilo 2 (pcn := 11) rfl dX7_hop_10 rfl rfl ?_
    refine aw_Vi (pcn := 14) (r_isMember hW (c := c) hc8 _) mf_X7_isMember mv_X7_isMember hW.mo rfl ml_X7_90 rfl (by decide) (by decide) (by decide) (by exact Nat.le_of_ble_eq_true rfl) rfl dX7_hop_11 rfl (fun r h2 hq => ?_)
    obtain ⟨rfl, hq⟩ := hq
    obtain rfl := hq.symm
    refine aw_if_eqB (t := 26) (pcn := 17) dX7_hop_14 rfl (by decide) (fun q2 => ?_) (fun q2 => ?_)
    · refine aw_iconst (v := -1) (pcn := 27) dX7_hop_26 rfl (by decide) ?_
      exact aw_iret dX7_hop_27 rfl ⟨_, rfl, ret2 (by first | (simp only [hopT, q1, q2, eh1, eh2, ix_nI (show c < 2 ^ 31 by omega), Bool.false_eq_true, Bool.true_eq_false, reduceCtorEq, if_true, if_false, or_false, false_or, or_true, true_or, and_true, true_and, and_false, false_and, not_true_eq_false, not_false_eq_true, or_self, ← Int32.not_le, frT, isCT, isST, isPT, isZT, shiT]; done) | (rw [hopT_eq hc8 (by assumption) (by assumption) (by assumption)]; simp only [q1, q2, eh1, eh2, ix_nI (show c < 2 ^ 31 by omega), Bool.false_eq_true, Bool.true_eq_false, reduceCtorEq, if_true, if_false, or_false, false_or, or_true, true_or, and_true, true_and, and_false, false_and, not_true_eq_false, not_false_eq_true, or_self, ← Int32.not_le, frT, isCT, isST, isPT, isZT, shiT]; done) | (rw [hopT_eq hc8 (by assumption) (by assumption) (by assumption)]; simp only [q1, q2, eh1, eh2, ix_nI (show c < 2 ^ 31 by omega), Bool.false_eq_true, Bool.true_eq_false, reduceCtorEq, if_true, if_false, or_false, false_or, or_true, true_or, and_true, true_and, and_false, false_and, not_true_eq_false, not_false_eq_true, or_self, ← Int32.not_le, frT, isCT, isST, isPT, isZT, shiT]; rfl) | (rw [hopT_eq hc8 (by assumption) (by assumption) (by assumption)]; rfl)) hW⟩
    · refine aw_alo 0 (pcn := 18) rfl dX7_hop_17 rfl rfl (rf_some _) ?_
      refine aw_ilo 1 (pcn := 19) rfl dX7_hop_18 rfl rfl ?_
      refine aw_ilo 3 (pcn := 20) rfl dX7_hop_19 rfl rfl ?_
      refine aw_Vi (pcn := 23) (r_isMember hW (c := c) hc8 _) mf_X7_isMember mv_X7_isMember hW.mo rfl ml_X7_90 rfl (by decide) (by decide) (by decide) (by exact Nat.le_of_ble_eq_true rfl) rfl dX7_hop_20 rfl (fun r h2 hq => ?_)
      obtain ⟨rfl, hq⟩ := hq
      obtain rfl := hq.symm
      refine aw_if_neB (t := 28) (pcn := 26) dX7_hop_23 rfl (by decide) (fun q3 => ?_) (fun q3 => ?_)
      · refine aw_alo 0 (pcn := 29) rfl dX7_hop_28 rfl rfl (rf_some _) ?_
        refine aw_getf (pcn := 32) fl_X7_25 dX7_hop_29 rfl hW.mo rfl ?_
        refine aw_ilo 1 (pcn := 33) rfl dX7_hop_32 rfl rfl ?_
        refine aw_ialdM (j := 9) (pcn := 34) hW dX7_hop_33 rfl (show _ < 8 by omega) ?_
        refine aw_iconst (v := nI 1) (pcn := 35) dX7_hop_34 rfl (by decide) ?_
        refine aw_icmp_eq (t := 41) (pcn := 38) dX7_hop_35 rfl (by decide) (fun q4 => ?_) (fun q4 => ?_)
        · refine aw_iconst (v := nI 0) (pcn := 42) dX7_hop_41 rfl (by decide) ?_
          refine aw_istore (pcn := 44) dX7_hop_42 rfl (by decide) ?_
          dsimp only [List.set_cons_zero, List.set_cons_succ]
          refine aw_iconst (v := nI 0) (pcn := 45) dX7_hop_44 rfl (by decide) ?_
          refine aw_istore (pcn := 47) dX7_hop_45 rfl (by decide) ?_
          dsimp only [List.set_cons_zero, List.set_cons_succ]
          have H : ∀ (m k : Nat) (x : Int32), k + m = hN → x = bI (agT Tr (nI c) k) → AW X l cX7_hop RX7 "hop" (some .int) 6 3 none (qi fun r h' => r = (hopT Tr hN (nI c) f t).1 ∧ WD Γ ow h' T (hopT Tr hN (nI c) f t).2 nh) 0 0 47 [some (.ref (Γ 14 0)), some (.int (nI c)), some (.int f), some (.int t), some (.int x), some (.int (nI k))] [] h := by
            intro m
            induction m with
            | zero  =>
              intro k x hk hx
              refine aw_iload (pcn := 49) dX7_hop_47 rfl rfl ?_
              refine aw_alo 0 (pcn := 50) rfl dX7_hop_49 rfl rfl (rf_some _) ?_
              refine aw_getf (pcn := 53) fl_X7_185 dX7_hop_50 rfl hW.mo rfl ?_
              rw [hI.h20]
              obtain rfl : hN = k := by omega
              subst hx
              refine aw_icmp_ge (t := 85) (pcn := 56) dX7_hop_53 rfl (by decide) (fun _ => ?_) (fun q => absurd (Int32.le_refl _) q)
              refine aw_alo 0 (pcn := 86) rfl dX7_hop_85 rfl rfl (rf_some _) ?_
              refine aw_getf (pcn := 89) fl_X7_185 dX7_hop_86 rfl hW.mo rfl ?_
              rw [hI.h20]
              refine aw_iconst (v := nI 4) (pcn := 90) dX7_hop_89 rfl (by decide) ?_
              refine aw_icmp_eq (t := 125) (pcn := 93) dX7_hop_90 rfl (by decide) (fun q5 => ?_) (fun q5 => ?_)
              · refine aw_bipush (v := -4) (pcn := 127) dX7_hop_125 rfl (by decide) ?_
                exact aw_iret dX7_hop_127 rfl ⟨_, rfl, ret2 (by first | (simp only [hopT, q1, q2, q3, q4, q5, eh1, eh2, ix_nI (show c < 2 ^ 31 by omega), Bool.false_eq_true, Bool.true_eq_false, reduceCtorEq, if_true, if_false, or_false, false_or, or_true, true_or, and_true, true_and, and_false, false_and, not_true_eq_false, not_false_eq_true, or_self, ← Int32.not_le, frT, isCT, isST, isPT, isZT, shiT]; done) | (rw [hopT_eq hc8 (by assumption) (by assumption) (by assumption)]; simp only [q1, q2, q3, q4, q5, eh1, eh2, ix_nI (show c < 2 ^ 31 by omega), Bool.false_eq_true, Bool.true_eq_false, reduceCtorEq, if_true, if_false, or_false, false_or, or_true, true_or, and_true, true_and, and_false, false_and, not_true_eq_false, not_false_eq_true, or_self, ← Int32.not_le, frT, isCT, isST, isPT, isZT, shiT]; done) | (rw [hopT_eq hc8 (by assumption) (by assumption) (by assumption)]; simp only [q1, q2, q3, q4, q5, eh1, eh2, ix_nI (show c < 2 ^ 31 by omega), Bool.false_eq_true, Bool.true_eq_false, reduceCtorEq, if_true, if_false, or_false, false_or, or_true, true_or, and_true, true_and, and_false, false_and, not_true_eq_false, not_false_eq_true, or_self, ← Int32.not_le, frT, isCT, isST, isPT, isZT, shiT]; rfl) | (rw [hopT_eq hc8 (by assumption) (by assumption) (by assumption)]; rfl)) hW⟩
              · refine aw_ilo 2 (pcn := 94) rfl dX7_hop_93 rfl rfl ?_
                refine aw_ilo 3 (pcn := 95) rfl dX7_hop_94 rfl rfl ?_
                refine aw_icmp_eq (t := 125) (pcn := 98) dX7_hop_95 rfl (by decide) (fun q6 => ?_) (fun q6 => ?_)
                · refine aw_bipush (v := -4) (pcn := 127) dX7_hop_125 rfl (by decide) ?_
                  exact aw_iret dX7_hop_127 rfl ⟨_, rfl, ret2 (by first | (simp only [hopT, q1, q2, q3, q4, q5, q6, eh1, eh2, ix_nI (show c < 2 ^ 31 by omega), Bool.false_eq_true, Bool.true_eq_false, reduceCtorEq, if_true, if_false, or_false, false_or, or_true, true_or, and_true, true_and, and_false, false_and, not_true_eq_false, not_false_eq_true, or_self, ← Int32.not_le, frT, isCT, isST, isPT, isZT, shiT]; done) | (rw [hopT_eq hc8 (by assumption) (by assumption) (by assumption)]; simp only [q1, q2, q3, q4, q5, q6, eh1, eh2, ix_nI (show c < 2 ^ 31 by omega), Bool.false_eq_true, Bool.true_eq_false, reduceCtorEq, if_true, if_false, or_false, false_or, or_true, true_or, and_true, true_and, and_false, false_and, not_true_eq_false, not_false_eq_true, or_self, ← Int32.not_le, frT, isCT, isST, isPT, isZT, shiT]; done) | (rw [hopT_eq hc8 (by assumption) (by assumption) (by assumption)]; simp only [q1, q2, q3, q4, q5, q6, eh1, eh2, ix_nI (show c < 2 ^ 31 by omega), Bool.false_eq_true, Bool.true_eq_false, reduceCtorEq, if_true, if_false, or_false, false_or, or_true, true_or, and_true, true_and, and_false, false_and, not_true_eq_false, not_false_eq_true, or_self, ← Int32.not_le, frT, isCT, isST, isPT, isZT, shiT]; rfl) | (rw [hopT_eq hc8 (by assumption) (by assumption) (by assumption)]; rfl)) hW⟩
                · refine aw_iload (pcn := 100) dX7_hop_98 rfl rfl ?_
                  refine aw_if_neB (t := 125) (pcn := 103) dX7_hop_100 rfl (by decide) (fun q7 => ?_) (fun q7 => ?_)
                  · refine aw_bipush (v := -4) (pcn := 127) dX7_hop_125 rfl (by decide) ?_
                    exact aw_iret dX7_hop_127 rfl ⟨_, rfl, ret2 (by first | (simp only [hopT, q1, q2, q3, q4, q5, q6, q7, eh1, eh2, ix_nI (show c < 2 ^ 31 by omega), Bool.false_eq_true, Bool.true_eq_false, reduceCtorEq, if_true, if_false, or_false, false_or, or_true, true_or, and_true, true_and, and_false, false_and, not_true_eq_false, not_false_eq_true, or_self, ← Int32.not_le, frT, isCT, isST, isPT, isZT, shiT]; done) | (rw [hopT_eq hc8 (by assumption) (by assumption) (by assumption)]; simp only [q1, q2, q3, q4, q5, q6, q7, eh1, eh2, ix_nI (show c < 2 ^ 31 by omega), Bool.false_eq_true, Bool.true_eq_false, reduceCtorEq, if_true, if_false, or_false, false_or, or_true, true_or, and_true, true_and, and_false, false_and, not_true_eq_false, not_false_eq_true, or_self, ← Int32.not_le, frT, isCT, isST, isPT, isZT, shiT]; done) | (rw [hopT_eq hc8 (by assumption) (by assumption) (by assumption)]; simp only [q1, q2, q3, q4, q5, q6, q7, eh1, eh2, ix_nI (show c < 2 ^ 31 by omega), Bool.false_eq_true, Bool.true_eq_false, reduceCtorEq, if_true, if_false, or_false, false_or, or_true, true_or, and_true, true_and, and_false, false_and, not_true_eq_false, not_false_eq_true, or_self, ← Int32.not_le, frT, isCT, isST, isPT, isZT, shiT]; rfl) | (rw [hopT_eq hc8 (by assumption) (by assumption) (by assumption)]; rfl)) hW⟩
                  · refine aw_alo 0 (pcn := 104) rfl dX7_hop_103 rfl rfl (rf_some _) ?_
                    refine aw_getf (pcn := 107) fl_X7_185 dX7_hop_104 rfl hW.mo rfl ?_
                    rw [hI.h20]
                    refine aw_if_le (t := 128) (pcn := 110) dX7_hop_107 rfl (by decide) (fun q8 => ?_) (fun q8 => ?_)
                    · have hh4 : hN < 4 := by
                        have : ¬ hN = 4 := by rw [eh1]; assumption
                        omega
                      refine aw_alo 0 (pcn := 129) rfl dX7_hop_128 rfl rfl (rf_some _) ?_
                      refine aw_getf (pcn := 132) fl_X7_55 dX7_hop_129 rfl hW.mo rfl ?_
                      refine aw_alo 0 (pcn := 133) rfl dX7_hop_132 rfl rfl (rf_some _) ?_
                      refine aw_getf (pcn := 136) fl_X7_185 dX7_hop_133 rfl hW.mo rfl ?_
                      rw [hI.h20]
                      refine aw_ilo 1 (pcn := 137) rfl dX7_hop_136 rfl rfl ?_
                      refine aw_iastM (j := 21) (pcn := 138) hW dX7_hop_137 rfl (show _ < 4 by omega) (fun h hW => ?_)
                      refine aw_alo 0 (pcn := 139) rfl dX7_hop_138 rfl rfl (rf_some _) ?_
                      refine aw_getf (pcn := 142) fl_X7_58 dX7_hop_139 rfl hW.mo rfl ?_
                      refine aw_alo 0 (pcn := 143) rfl dX7_hop_142 rfl rfl (rf_some _) ?_
                      refine aw_getf (pcn := 146) fl_X7_185 dX7_hop_143 rfl hW.mo rfl ?_
                      rw [up_j _ _ _ _ (by decide), hI.h20]
                      refine aw_ilo 2 (pcn := 147) rfl dX7_hop_146 rfl rfl ?_
                      refine aw_iastM (j := 22) (pcn := 148) hW dX7_hop_147 rfl (show _ < 4 by omega) (fun h hW => ?_)
                      refine aw_alo 0 (pcn := 149) rfl dX7_hop_148 rfl rfl (rf_some _) ?_
                      refine aw_getf (pcn := 152) fl_X7_61 dX7_hop_149 rfl hW.mo rfl ?_
                      refine aw_alo 0 (pcn := 153) rfl dX7_hop_152 rfl rfl (rf_some _) ?_
                      refine aw_getf (pcn := 156) fl_X7_185 dX7_hop_153 rfl hW.mo rfl ?_
                      rw [up_j _ _ _ _ (by decide), up_j _ _ _ _ (by decide), hI.h20]
                      refine aw_ilo 3 (pcn := 157) rfl dX7_hop_156 rfl rfl ?_
                      refine aw_iastM (j := 23) (pcn := 158) hW dX7_hop_157 rfl (show _ < 4 by omega) (fun h hW => ?_)
                      refine aw_alo 0 (pcn := 159) rfl dX7_hop_158 rfl rfl (rf_some _) ?_
                      refine aw_dup (pcn := 160) dX7_hop_159 rfl rfl ?_
                      refine aw_getf (pcn := 163) fl_X7_185 dX7_hop_160 rfl hW.mo rfl ?_
                      rw [up_j _ _ _ _ (by decide), up_j _ _ _ _ (by decide), up_j _ _ _ _ (by decide), hI.h20]
                      refine aw_iconst (v := nI 1) (pcn := 164) dX7_hop_163 rfl (by decide) ?_
                      refine aw_iaddN (pcn := 165) dX7_hop_164 rfl ?_
                      refine aw_putM (pcn := 168) hW fp_X7_185 rfl (ms_20 _ _ _) (by decide) dX7_hop_165 rfl (fun h hW => ?_)
                      refine aw_alo 0 (pcn := 169) rfl dX7_hop_168 rfl rfl (rf_some _) ?_
                      refine aw_getf (pcn := 172) fl_X7_185 dX7_hop_169 rfl hW.mo rfl ?_
                      rw [up_s]
                      exact aw_iret dX7_hop_172 rfl ⟨_, rfl, ret2 (by first | (simp only [hopT, q1, q2, q3, q4, q5, q6, q7, q8, eh1, eh2, ix_nI (show c < 2 ^ 31 by omega), Bool.false_eq_true, Bool.true_eq_false, reduceCtorEq, if_true, if_false, or_false, false_or, or_true, true_or, and_true, true_and, and_false, false_and, not_true_eq_false, not_false_eq_true, or_self, ← Int32.not_le, frT, isCT, isST, isPT, isZT, shiT]; done) | (rw [hopT_eq hc8 (by assumption) (by assumption) (by assumption)]; simp only [q1, q2, q3, q4, q5, q6, q7, q8, eh1, eh2, ix_nI (show c < 2 ^ 31 by omega), Bool.false_eq_true, Bool.true_eq_false, reduceCtorEq, if_true, if_false, or_false, false_or, or_true, true_or, and_true, true_and, and_false, false_and, not_true_eq_false, not_false_eq_true, or_self, ← Int32.not_le, frT, isCT, isST, isPT, isZT, shiT]; done) | (rw [hopT_eq hc8 (by assumption) (by assumption) (by assumption)]; simp only [q1, q2, q3, q4, q5, q6, q7, q8, eh1, eh2, ix_nI (show c < 2 ^ 31 by omega), Bool.false_eq_true, Bool.true_eq_false, reduceCtorEq, if_true, if_false, or_false, false_or, or_true, true_or, and_true, true_and, and_false, false_and, not_true_eq_false, not_false_eq_true, or_self, ← Int32.not_le, frT, isCT, isST, isPT, isZT, shiT]; rfl) | (rw [hopT_eq hc8 (by assumption) (by assumption) (by assumption)]; rfl)) hW⟩
                    · refine aw_alo 0 (pcn := 111) rfl dX7_hop_110 rfl rfl (rf_some _) ?_
                      refine aw_getf (pcn := 114) fl_X7_61 dX7_hop_111 rfl hW.mo rfl ?_
                      refine aw_alo 0 (pcn := 115) rfl dX7_hop_114 rfl rfl (rf_some _) ?_
                      refine aw_getf (pcn := 118) fl_X7_185 dX7_hop_115 rfl hW.mo rfl ?_
                      rw [hI.h20]
                      refine aw_iconst (v := nI 1) (pcn := 119) dX7_hop_118 rfl (by decide) ?_
                      refine aw_isub (pcn := 120) dX7_hop_119 rfl ?_
                      have hpos : 0 < hN := by rw [eh2]; assumption
                      rw [pk_sub (show 1 ≤ hN by omega)]
                      refine aw_ialdM (j := 23) (pcn := 121) hW dX7_hop_120 rfl (show _ < 4 by omega) ?_
                      refine aw_ilo 2 (pcn := 122) rfl dX7_hop_121 rfl rfl ?_
                      refine aw_icmp_eq (t := 128) (pcn := 125) dX7_hop_122 rfl (by decide) (fun q9 => ?_) (fun q9 => ?_)
                      · have hh4 : hN < 4 := by
                          have : ¬ hN = 4 := by rw [eh1]; assumption
                          omega
                        refine aw_alo 0 (pcn := 129) rfl dX7_hop_128 rfl rfl (rf_some _) ?_
                        refine aw_getf (pcn := 132) fl_X7_55 dX7_hop_129 rfl hW.mo rfl ?_
                        refine aw_alo 0 (pcn := 133) rfl dX7_hop_132 rfl rfl (rf_some _) ?_
                        refine aw_getf (pcn := 136) fl_X7_185 dX7_hop_133 rfl hW.mo rfl ?_
                        rw [hI.h20]
                        refine aw_ilo 1 (pcn := 137) rfl dX7_hop_136 rfl rfl ?_
                        refine aw_iastM (j := 21) (pcn := 138) hW dX7_hop_137 rfl (show _ < 4 by omega) (fun h hW => ?_)
                        refine aw_alo 0 (pcn := 139) rfl dX7_hop_138 rfl rfl (rf_some _) ?_
                        refine aw_getf (pcn := 142) fl_X7_58 dX7_hop_139 rfl hW.mo rfl ?_
                        refine aw_alo 0 (pcn := 143) rfl dX7_hop_142 rfl rfl (rf_some _) ?_
                        refine aw_getf (pcn := 146) fl_X7_185 dX7_hop_143 rfl hW.mo rfl ?_
                        rw [up_j _ _ _ _ (by decide), hI.h20]
                        refine aw_ilo 2 (pcn := 147) rfl dX7_hop_146 rfl rfl ?_
                        refine aw_iastM (j := 22) (pcn := 148) hW dX7_hop_147 rfl (show _ < 4 by omega) (fun h hW => ?_)
                        refine aw_alo 0 (pcn := 149) rfl dX7_hop_148 rfl rfl (rf_some _) ?_
                        refine aw_getf (pcn := 152) fl_X7_61 dX7_hop_149 rfl hW.mo rfl ?_
                        refine aw_alo 0 (pcn := 153) rfl dX7_hop_152 rfl rfl (rf_some _) ?_
                        refine aw_getf (pcn := 156) fl_X7_185 dX7_hop_153 rfl hW.mo rfl ?_
                        rw [up_j _ _ _ _ (by decide), up_j _ _ _ _ (by decide), hI.h20]
                        refine aw_ilo 3 (pcn := 157) rfl dX7_hop_156 rfl rfl ?_
                        refine aw_iastM (j := 23) (pcn := 158) hW dX7_hop_157 rfl (show _ < 4 by omega) (fun h hW => ?_)
                        refine aw_alo 0 (pcn := 159) rfl dX7_hop_158 rfl rfl (rf_some _) ?_
                        refine aw_dup (pcn := 160) dX7_hop_159 rfl rfl ?_
                        refine aw_getf (pcn := 163) fl_X7_185 dX7_hop_160 rfl hW.mo rfl ?_
                        rw [up_j _ _ _ _ (by decide), up_j _ _ _ _ (by decide), up_j _ _ _ _ (by decide), hI.h20]
                        refine aw_iconst (v := nI 1) (pcn := 164) dX7_hop_163 rfl (by decide) ?_
                        refine aw_iaddN (pcn := 165) dX7_hop_164 rfl ?_
                        refine aw_putM (pcn := 168) hW fp_X7_185 rfl (ms_20 _ _ _) (by decide) dX7_hop_165 rfl (fun h hW => ?_)
                        refine aw_alo 0 (pcn := 169) rfl dX7_hop_168 rfl rfl (rf_some _) ?_
                        refine aw_getf (pcn := 172) fl_X7_185 dX7_hop_169 rfl hW.mo rfl ?_
                        rw [up_s]
                        exact aw_iret dX7_hop_172 rfl ⟨_, rfl, ret2 (by first | (simp only [hopT, q1, q2, q3, q4, q5, q6, q7, q8, q9, eh1, eh2, ix_nI (show c < 2 ^ 31 by omega), Bool.false_eq_true, Bool.true_eq_false, reduceCtorEq, if_true, if_false, or_false, false_or, or_true, true_or, and_true, true_and, and_false, false_and, not_true_eq_false, not_false_eq_true, or_self, ← Int32.not_le, frT, isCT, isST, isPT, isZT, shiT]; done) | (rw [hopT_eq hc8 (by assumption) (by assumption) (by assumption)]; simp only [q1, q2, q3, q4, q5, q6, q7, q8, q9, eh1, eh2, ix_nI (show c < 2 ^ 31 by omega), Bool.false_eq_true, Bool.true_eq_false, reduceCtorEq, if_true, if_false, or_false, false_or, or_true, true_or, and_true, true_and, and_false, false_and, not_true_eq_false, not_false_eq_true, or_self, ← Int32.not_le, frT, isCT, isST, isPT, isZT, shiT]; done) | (rw [hopT_eq hc8 (by assumption) (by assumption) (by assumption)]; simp only [q1, q2, q3, q4, q5, q6, q7, q8, q9, eh1, eh2, ix_nI (show c < 2 ^ 31 by omega), Bool.false_eq_true, Bool.true_eq_false, reduceCtorEq, if_true, if_false, or_false, false_or, or_true, true_or, and_true, true_and, and_false, false_and, not_true_eq_false, not_false_eq_true, or_self, ← Int32.not_le, frT, isCT, isST, isPT, isZT, shiT]; rfl) | (rw [hopT_eq hc8 (by assumption) (by assumption) (by assumption)]; rfl)) hW⟩
                      · refine aw_bipush (v := -4) (pcn := 127) dX7_hop_125 rfl (by decide) ?_
                        exact aw_iret dX7_hop_127 rfl ⟨_, rfl, ret2 (by first | (simp only [hopT, q1, q2, q3, q4, q5, q6, q7, q8, q9, eh1, eh2, ix_nI (show c < 2 ^ 31 by omega), Bool.false_eq_true, Bool.true_eq_false, reduceCtorEq, if_true, if_false, or_false, false_or, or_true, true_or, and_true, true_and, and_false, false_and, not_true_eq_false, not_false_eq_true, or_self, ← Int32.not_le, frT, isCT, isST, isPT, isZT, shiT]; done) | (rw [hopT_eq hc8 (by assumption) (by assumption) (by assumption)]; simp only [q1, q2, q3, q4, q5, q6, q7, q8, q9, eh1, eh2, ix_nI (show c < 2 ^ 31 by omega), Bool.false_eq_true, Bool.true_eq_false, reduceCtorEq, if_true, if_false, or_false, false_or, or_true, true_or, and_true, true_and, and_false, false_and, not_true_eq_false, not_false_eq_true, or_self, ← Int32.not_le, frT, isCT, isST, isPT, isZT, shiT]; done) | (rw [hopT_eq hc8 (by assumption) (by assumption) (by assumption)]; simp only [q1, q2, q3, q4, q5, q6, q7, q8, q9, eh1, eh2, ix_nI (show c < 2 ^ 31 by omega), Bool.false_eq_true, Bool.true_eq_false, reduceCtorEq, if_true, if_false, or_false, false_or, or_true, true_or, and_true, true_and, and_false, false_and, not_true_eq_false, not_false_eq_true, or_self, ← Int32.not_le, frT, isCT, isST, isPT, isZT, shiT]; rfl) | (rw [hopT_eq hc8 (by assumption) (by assumption) (by assumption)]; rfl)) hW⟩
            | succ m ih =>
              intro k x hk hx
              refine aw_iload (pcn := 49) dX7_hop_47 rfl rfl ?_
              refine aw_alo 0 (pcn := 50) rfl dX7_hop_49 rfl rfl (rf_some _) ?_
              refine aw_getf (pcn := 53) fl_X7_185 dX7_hop_50 rfl hW.mo rfl ?_
              rw [hI.h20]
              refine aw_icmp_ge (t := 85) (pcn := 56) dX7_hop_53 rfl (by decide) (fun q => absurd q (nI_ge (by omega) (by omega))) (fun _ => ?_)
              refine aw_iload (pcn := 58) dX7_hop_56 rfl rfl ?_
              refine aw_if_ne (t := 72) (pcn := 61) dX7_hop_58 rfl (by decide) (fun q10 => ?_) (fun q10 => ?_)
              · refine aw_iconst (v := nI 1) (pcn := 73) dX7_hop_72 rfl (by decide) ?_
                refine aw_goto (t := 77) dX7_hop_73 (by decide) ?_
                refine aw_istore (pcn := 79) dX7_hop_77 rfl (by decide) ?_
                dsimp only [List.set_cons_zero, List.set_cons_succ]
                refine aw_iincN (pcn := 82) dX7_hop_79 rfl (by decide) rfl ?_
                dsimp only [List.set_cons_zero, List.set_cons_succ]
                refine aw_goto (t := 47) dX7_hop_82 (by decide) ?_
                exact ih (k + 1) _ (by omega) (by rw [hx] at *; cases e1 : agT Tr (nI c) k <;> simp_all [agT, bI, nI_one, nI_0])
              · refine aw_alo 0 (pcn := 62) rfl dX7_hop_61 rfl rfl (rf_some _) ?_
                refine aw_getf (pcn := 65) fl_X7_55 dX7_hop_62 rfl hW.mo rfl ?_
                refine aw_iload (pcn := 67) dX7_hop_65 rfl rfl ?_
                refine aw_ialdM (j := 21) (pcn := 68) hW dX7_hop_67 rfl (show _ < 4 by omega) ?_
                refine aw_ilo 1 (pcn := 69) rfl dX7_hop_68 rfl rfl ?_
                refine aw_icmp_ne (t := 76) (pcn := 72) dX7_hop_69 rfl (by decide) (fun q11 => ?_) (fun q11 => ?_)
                · refine aw_iconst (v := nI 0) (pcn := 77) dX7_hop_76 rfl (by decide) ?_
                  refine aw_istore (pcn := 79) dX7_hop_77 rfl (by decide) ?_
                  dsimp only [List.set_cons_zero, List.set_cons_succ]
                  refine aw_iincN (pcn := 82) dX7_hop_79 rfl (by decide) rfl ?_
                  dsimp only [List.set_cons_zero, List.set_cons_succ]
                  refine aw_goto (t := 47) dX7_hop_82 (by decide) ?_
                  exact ih (k + 1) _ (by omega) (by rw [hx] at *; cases e1 : agT Tr (nI c) k <;> simp_all [agT, bI, nI_one, nI_0])
                · refine aw_iconst (v := nI 1) (pcn := 73) dX7_hop_72 rfl (by decide) ?_
                  refine aw_goto (t := 77) dX7_hop_73 (by decide) ?_
                  refine aw_istore (pcn := 79) dX7_hop_77 rfl (by decide) ?_
                  dsimp only [List.set_cons_zero, List.set_cons_succ]
                  refine aw_iincN (pcn := 82) dX7_hop_79 rfl (by decide) rfl ?_
                  dsimp only [List.set_cons_zero, List.set_cons_succ]
                  refine aw_goto (t := 47) dX7_hop_82 (by decide) ?_
                  exact ih (k + 1) _ (by omega) (by rw [hx] at *; cases e1 : agT Tr (nI c) k <;> simp_all [agT, bI, nI_one, nI_0])
          exact H hN 0 _ (by omega) nI_0
        · refine aw_bipush (v := -2) (pcn := 40) dX7_hop_38 rfl (by decide) ?_
          exact aw_iret dX7_hop_40 rfl ⟨_, rfl, ret2 (by first | (simp only [hopT, q1, q2, q3, q4, eh1, eh2, ix_nI (show c < 2 ^ 31 by omega), Bool.false_eq_true, Bool.true_eq_false, reduceCtorEq, if_true, if_false, or_false, false_or, or_true, true_or, and_true, true_and, and_false, false_and, not_true_eq_false, not_false_eq_true, or_self, ← Int32.not_le, frT, isCT, isST, isPT, isZT, shiT]; done) | (rw [hopT_eq hc8 (by assumption) (by assumption) (by assumption)]; simp only [q1, q2, q3, q4, eh1, eh2, ix_nI (show c < 2 ^ 31 by omega), Bool.false_eq_true, Bool.true_eq_false, reduceCtorEq, if_true, if_false, or_false, false_or, or_true, true_or, and_true, true_and, and_false, false_and, not_true_eq_false, not_false_eq_true, or_self, ← Int32.not_le, frT, isCT, isST, isPT, isZT, shiT]; done) | (rw [hopT_eq hc8 (by assumption) (by assumption) (by assumption)]; simp only [q1, q2, q3, q4, eh1, eh2, ix_nI (show c < 2 ^ 31 by omega), Bool.false_eq_true, Bool.true_eq_false, reduceCtorEq, if_true, if_false, or_false, false_or, or_true, true_or, and_true, true_and, and_false, false_and, not_true_eq_false, not_false_eq_true, or_self, ← Int32.not_le, frT, isCT, isST, isPT, isZT, shiT]; rfl) | (rw [hopT_eq hc8 (by assumption) (by assumption) (by assumption)]; rfl)) hW⟩
      · refine aw_iconst (v := -1) (pcn := 27) dX7_hop_26 rfl (by decide) ?_
        exact aw_iret dX7_hop_27 rfl ⟨_, rfl, ret2 (by first | (simp only [hopT, q1, q2, q3, eh1, eh2, ix_nI (show c < 2 ^ 31 by omega), Bool.false_eq_true, Bool.true_eq_false, reduceCtorEq, if_true, if_false, or_false, false_or, or_true, true_or, and_true, true_and, and_false, false_and, not_true_eq_false, not_false_eq_true, or_self, ← Int32.not_le, frT, isCT, isST, isPT, isZT, shiT]; done) | (rw [hopT_eq hc8 (by assumption) (by assumption) (by assumption)]; simp only [q1, q2, q3, eh1, eh2, ix_nI (show c < 2 ^ 31 by omega), Bool.false_eq_true, Bool.true_eq_false, reduceCtorEq, if_true, if_false, or_false, false_or, or_true, true_or, and_true, true_and, and_false, false_and, not_true_eq_false, not_false_eq_true, or_self, ← Int32.not_le, frT, isCT, isST, isPT, isZT, shiT]; done) | (rw [hopT_eq hc8 (by assumption) (by assumption) (by assumption)]; simp only [q1, q2, q3, eh1, eh2, ix_nI (show c < 2 ^ 31 by omega), Bool.false_eq_true, Bool.true_eq_false, reduceCtorEq, if_true, if_false, or_false, false_or, or_true, true_or, and_true, true_and, and_false, false_and, not_true_eq_false, not_false_eq_true, or_self, ← Int32.not_le, frT, isCT, isST, isPT, isZT, shiT]; rfl) | (rw [hopT_eq hc8 (by assumption) (by assumption) (by assumption)]; rfl)) hW⟩

def PyOK (i : Nat) (T0 : TB) (C n Z hN : Nat) (v e : Int32) : Prop := hbA T0 n v hN = false → 0 < hN → n + hN ≤ 64 → Z < 16 → ∀ q, q < hN → Iv i (pyhA (secT T0 Z (ix (T0 23 (hN - 1)))) n Z v (endE T0 e (hN - 1)) q).1 C (n + q) (Z + 1) 0 ∧ ¬ (pyhA (secT T0 Z (ix (T0 23 (hN - 1)))) n Z v (endE T0 e (hN - 1)) q).1 9 (hpC T0 q) = nI 3 ∧ ¬ epT (copT (pyhA (secT T0 Z (ix (T0 23 (hN - 1)))) n Z v (endE T0 e (hN - 1)) q).1 (hpC T0 q) (n + q) (ix (nwT (pyhA (secT T0 Z (ix (T0 23 (hN - 1)))) n Z v (endE T0 e (hN - 1)) q).1 (hpC T0 q) (n + q)))) (n + q) = -1
theorem cpT_j (T : TB) (n s k : Nat) {j : Nat} (i : Nat) (h : j ≠ 19) : cpT T n s k j i = T j i := by
  induction k with
  | zero => rfl
  | succ k ih => rw [cpT, up_j _ _ _ _ h, ih]
theorem blkT_j (T : TB) (c n : Nat) {j : Nat} (i : Nat) (h : j ≠ 18 ∧ j ≠ 19 ∧ j ≠ 24) : blkT T c n j i = T j i := by
  unfold blkT
  rw [up_j _ _ _ _ h.2.2, up_j _ _ _ _ h.1, up_j _ _ _ _ h.2.1, up_j _ _ _ _ h.2.1, up_j _ _ _ _ h.2.1, up_j _ _ _ _ h.2.1, zrT_j _ _ _ _ h.2.1]
theorem copT_j (T : TB) (c n s : Nat) {j : Nat} (i : Nat) (h : j ≠ 18 ∧ j ≠ 19 ∧ j ≠ 24) : copT T c n s j i = T j i := by
  unfold copT
  rw [cpT_j _ _ _ _ _ h.2.1, blkT_j _ _ _ _ h]
theorem lksT_j (T : TB) (s k p q z : Nat) (v ex : Int32) {j : Nat} (i : Nat) (h : j ≠ 19) : lksT T s k p q z v ex j i = T j i := by
  unfold lksT
  rw [up_j _ _ _ _ h, up_j _ _ _ _ h, up_j _ _ _ _ h, up_j _ _ _ _ h, up_j _ _ _ _ h, up_j _ _ _ _ h]
theorem pyhT_j (T : TB) (n q Z : Nat) (v e : Int32) {j : Nat} (i : Nat) (h : j ≠ 18 ∧ j ≠ 19 ∧ j ≠ 24 ∧ j ≠ 25) : pyhT T n q Z v e j i = T j i := by
  unfold pyhT pyh0
  rw [up_j _ _ _ _ (by omega), up_j _ _ _ _ (by omega), lksT_j _ _ _ _ _ _ _ _ _ (by omega), copT_j _ _ _ _ _ (by omega)]
theorem pyhA_j (T : TB) (n Z : Nat) (v e : Int32) (q : Nat) {j : Nat} (i : Nat) (h : j ≠ 18 ∧ j ≠ 19 ∧ j ≠ 24 ∧ j ≠ 25) : (pyhA T n Z v e q).1 j i = T j i := by
  induction q with
  | zero => rfl
  | succ q ih =>
    show pyhT _ _ _ _ _ _ j i = _
    rw [pyhT_j _ _ _ _ _ _ _ h, ih]
theorem hbA_mono {T : TB} {n : Nat} {v : Int32} {k m : Nat} (h : hbA T n v k = true) (hm : k ≤ m) : hbA T n v m = true := by
  induction m with
  | zero =>
    obtain rfl : k = 0 := by omega
    exact h
  | succ m ih =>
    rcases Nat.lt_or_ge k (m + 1) with e | e
    · rw [hbA, ih (by omega)]
      rfl
    · obtain rfl : k = m + 1 := by omega
      exact h
theorem isPT_of {P : Nat} (h : P < 6) : isPT (nI P) = true := by
  rcases (show P = 0 ∨ P = 1 ∨ P = 2 ∨ P = 3 ∨ P = 4 ∨ P = 5 by omega) with rfl | rfl | rfl | rfl | rfl | rfl <;> decide
set_option maxHeartbeats 8000000 in
set_option maxRecDepth 20000 in
theorem r_a_pay {X : XG} {l : Launch} {Γ : NM} {ow : Nat → Nat × Nat} {h : Hp} {T Tr : TB} {nh : Nat} (hW : WD Γ ow h T Tr nh) {i C n Z hN : Nat} {T0 : TB} (hT0 : up Tr 20 0 (nI 0) = T0) (v e : Int32) (hI0 : Iv i T0 C n Z 0) (hn : Tr 20 0 = nI hN) (h4 : hN ≤ 4) (hH : IvH T0 C hN) (hP : PyOK i T0 C n Z hN v e) : AM X l yX7_pay cX7_pay 11 (some .int) 5 0 0 [.ref (Γ 14 0), .int v, .int e] h (qi fun r h' => r = (payT0 T0 n Z hN v e).1 ∧ WD Γ ow h' T (payT0 T0 n Z hN v e).2 nh) := by
  refine AM.of (by decide +kernel) (by simp [Value.category]) (Nat.le_of_ble_eq_true rfl) ?_
  show AW X l cX7_pay RX7 "pay" (some .int) 11 5 none _ 0 0 0 [some (.ref (Γ 14 0)), some (.int v), some (.int e), none, none, none, none, none, none, none, none] [] h
  have h64 := hI0.n64
  have h8 := hI0.C8
  have h16 := hI0.Z16
  have ep1 : (hN = 0) = (nI hN = 0) := by rw [← nI_0, nI_eq (by omega) (by decide)]
  have ep2 : (64 < n + hN) = ¬ (nI (n + hN) ≤ nI 64) := by
    rw [nI_leI (by omega) (by decide)]
    exact propext (by omega)
  refine aw_alo 0 (pcn := 1) rfl dX7_pay_0 rfl rfl (rf_some _) ?_
  refine aw_getf (pcn := 4) fl_X7_185 dX7_pay_1 rfl hW.mo rfl ?_
  rw [hn]
  refine aw_ist 3 (pcn := 5) rfl dX7_pay_4 rfl (by decide) ?_
  dsimp only [List.set_cons_zero, List.set_cons_succ]
  refine aw_alo 0 (pcn := 6) rfl dX7_pay_5 rfl rfl (rf_some _) ?_
  refine aw_iconst (v := nI 0) (pcn := 7) dX7_pay_6 rfl (by decide) ?_
  refine aw_putM (pcn := 10) hW fp_X7_185 rfl (ms_20 _ _ _) (by decide) dX7_pay_7 rfl (fun h hW => ?_)
  rw [hT0] at hW
  refine aw_ilo 1 (pcn := 11) rfl dX7_pay_10 rfl rfl ?_
  refine aw_iconst (v := nI 1) (pcn := 12) dX7_pay_11 rfl (by decide) ?_
  refine aw_ldc (pcn := 14) ct_X7_161 dX7_pay_12 rfl ?_
  rw [show (60000 : Int32) = nI 60000 by decide]
  refine aw_Si (pcn := 17) (r_isIn _ _ _) mf_X7_isIn mv_X7_isIn ml_X7_64 rfl (by decide) (by decide) (by decide) (by exact Nat.le_of_ble_eq_true rfl) rfl dX7_pay_14 rfl (fun r h2 hq => ?_)
  obtain ⟨rfl, hq⟩ := hq
  obtain rfl := hq.symm
  refine aw_if_eqB (t := 30) (pcn := 20) dX7_pay_17 rfl (by decide) (fun q1 => ?_) (fun q1 => ?_)
  · refine aw_bipush (v := -3) (pcn := 32) dX7_pay_30 rfl (by decide) ?_
    exact aw_iret dX7_pay_32 rfl ⟨_, rfl, ret2 (by unfold payT0; rw [if_pos (by simp only [q1, Bool.false_eq_true, Bool.true_eq_false, reduceCtorEq, if_true, if_false, or_false, false_or, or_true, true_or, not_true_eq_false, not_false_eq_true, or_self])]) hW⟩
  · refine aw_ilo 2 (pcn := 21) rfl dX7_pay_20 rfl rfl ?_
    refine aw_iconst (v := nI 1) (pcn := 22) dX7_pay_21 rfl (by decide) ?_
    refine aw_ldc (pcn := 24) ct_X7_168 dX7_pay_22 rfl ?_
    rw [show (1000000 : Int32) = nI 1000000 by decide]
    refine aw_Si (pcn := 27) (r_isIn _ _ _) mf_X7_isIn mv_X7_isIn ml_X7_64 rfl (by decide) (by decide) (by decide) (by exact Nat.le_of_ble_eq_true rfl) rfl dX7_pay_24 rfl (fun r h2 hq => ?_)
    obtain ⟨rfl, hq⟩ := hq
    obtain rfl := hq.symm
    refine aw_if_neB (t := 33) (pcn := 30) dX7_pay_27 rfl (by decide) (fun q2 => ?_) (fun q2 => ?_)
    · have qv := q1
      have qe := q2
      refine aw_ilo 3 (pcn := 34) rfl dX7_pay_33 rfl rfl ?_
      refine aw_if_eq (t := 57) (pcn := 37) dX7_pay_34 rfl (by decide) (fun q3 => ?_) (fun q3 => ?_)
      · refine aw_iconst (v := nI 1) (pcn := 58) dX7_pay_57 rfl (by decide) ?_
        refine aw_goto (t := 62) dX7_pay_58 (by decide) ?_
        refine aw_istore (pcn := 64) dX7_pay_62 rfl (by decide) ?_
        dsimp only [List.set_cons_zero, List.set_cons_succ]
        refine aw_iconst (v := nI 0) (pcn := 65) dX7_pay_64 rfl (by decide) ?_
        refine aw_istore (pcn := 67) dX7_pay_65 rfl (by decide) ?_
        dsimp only [List.set_cons_zero, List.set_cons_succ]
        refine aw_iload (pcn := 69) dX7_pay_67 rfl rfl ?_
        refine aw_ilo 3 (pcn := 70) rfl dX7_pay_69 rfl rfl ?_
        refine aw_icmp_ge (t := 153) (pcn := 73) dX7_pay_70 rfl (by decide) (fun q4 => ?_) (fun q4 => ?_)
        · refine aw_iload (pcn := 155) dX7_pay_153 rfl rfl ?_
          refine aw_if_eq (t := 161) (pcn := 158) dX7_pay_155 rfl (by decide) (fun q5 => absurd q5 (by decide)) (fun q5 => ?_)
          refine aw_bipush (v := -4) (pcn := 160) dX7_pay_158 rfl (by decide) ?_
          exact aw_iret dX7_pay_160 rfl ⟨_, rfl, ret2 (by unfold payT0; rw [if_neg (by simp only [qv, qe, Bool.false_eq_true, Bool.true_eq_false, reduceCtorEq, if_true, if_false, or_false, false_or, or_true, true_or, not_true_eq_false, not_false_eq_true, or_self]), if_pos (by simp only [ep1, ep2, q1, q2, q3, q4, ← Int32.not_le, Bool.false_eq_true, Bool.true_eq_false, reduceCtorEq, if_true, if_false, or_false, false_or, or_true, true_or, not_true_eq_false, not_false_eq_true, or_self])]) hW⟩
        · refine aw_iload (pcn := 75) dX7_pay_73 rfl rfl ?_
          refine aw_if_ne (t := 153) (pcn := 78) dX7_pay_75 rfl (by decide) (fun q6 => ?_) (fun q6 => absurd q6 (by decide))
          refine aw_iload (pcn := 155) dX7_pay_153 rfl rfl ?_
          refine aw_if_eq (t := 161) (pcn := 158) dX7_pay_155 rfl (by decide) (fun q7 => absurd q7 (by decide)) (fun q7 => ?_)
          refine aw_bipush (v := -4) (pcn := 160) dX7_pay_158 rfl (by decide) ?_
          exact aw_iret dX7_pay_160 rfl ⟨_, rfl, ret2 (by unfold payT0; rw [if_neg (by simp only [qv, qe, Bool.false_eq_true, Bool.true_eq_false, reduceCtorEq, if_true, if_false, or_false, false_or, or_true, true_or, not_true_eq_false, not_false_eq_true, or_self]), if_pos (by simp only [ep1, ep2, q1, q2, q3, q4, ← Int32.not_le, Bool.false_eq_true, Bool.true_eq_false, reduceCtorEq, if_true, if_false, or_false, false_or, or_true, true_or, not_true_eq_false, not_false_eq_true, or_self])]) hW⟩
      · refine aw_alo 0 (pcn := 38) rfl dX7_pay_37 rfl rfl (rf_some _) ?_
        refine aw_getf (pcn := 41) fl_X7_165 dX7_pay_38 rfl hW.mo rfl ?_
        refine aw_bipush (v := nI 16) (pcn := 43) dX7_pay_41 rfl (by decide) ?_
        refine aw_icmp_eq (t := 57) (pcn := 46) dX7_pay_43 rfl (by decide) (fun q8 => ?_) (fun q8 => ?_)
        · refine aw_iconst (v := nI 1) (pcn := 58) dX7_pay_57 rfl (by decide) ?_
          refine aw_goto (t := 62) dX7_pay_58 (by decide) ?_
          refine aw_istore (pcn := 64) dX7_pay_62 rfl (by decide) ?_
          dsimp only [List.set_cons_zero, List.set_cons_succ]
          refine aw_iconst (v := nI 0) (pcn := 65) dX7_pay_64 rfl (by decide) ?_
          refine aw_istore (pcn := 67) dX7_pay_65 rfl (by decide) ?_
          dsimp only [List.set_cons_zero, List.set_cons_succ]
          refine aw_iload (pcn := 69) dX7_pay_67 rfl rfl ?_
          refine aw_ilo 3 (pcn := 70) rfl dX7_pay_69 rfl rfl ?_
          refine aw_icmp_ge (t := 153) (pcn := 73) dX7_pay_70 rfl (by decide) (fun q9 => ?_) (fun q9 => ?_)
          · refine aw_iload (pcn := 155) dX7_pay_153 rfl rfl ?_
            refine aw_if_eq (t := 161) (pcn := 158) dX7_pay_155 rfl (by decide) (fun q10 => absurd q10 (by decide)) (fun q10 => ?_)
            refine aw_bipush (v := -4) (pcn := 160) dX7_pay_158 rfl (by decide) ?_
            exact aw_iret dX7_pay_160 rfl ⟨_, rfl, ret2 (by unfold payT0; rw [if_neg (by simp only [qv, qe, Bool.false_eq_true, Bool.true_eq_false, reduceCtorEq, if_true, if_false, or_false, false_or, or_true, true_or, not_true_eq_false, not_false_eq_true, or_self]), if_pos (by simp only [ep1, ep2, q1, q2, q3, q8, q9, ← Int32.not_le, Bool.false_eq_true, Bool.true_eq_false, reduceCtorEq, if_true, if_false, or_false, false_or, or_true, true_or, not_true_eq_false, not_false_eq_true, or_self])]) hW⟩
          · refine aw_iload (pcn := 75) dX7_pay_73 rfl rfl ?_
            refine aw_if_ne (t := 153) (pcn := 78) dX7_pay_75 rfl (by decide) (fun q11 => ?_) (fun q11 => absurd q11 (by decide))
            refine aw_iload (pcn := 155) dX7_pay_153 rfl rfl ?_
            refine aw_if_eq (t := 161) (pcn := 158) dX7_pay_155 rfl (by decide) (fun q12 => absurd q12 (by decide)) (fun q12 => ?_)
            refine aw_bipush (v := -4) (pcn := 160) dX7_pay_158 rfl (by decide) ?_
            exact aw_iret dX7_pay_160 rfl ⟨_, rfl, ret2 (by unfold payT0; rw [if_neg (by simp only [qv, qe, Bool.false_eq_true, Bool.true_eq_false, reduceCtorEq, if_true, if_false, or_false, false_or, or_true, true_or, not_true_eq_false, not_false_eq_true, or_self]), if_pos (by simp only [ep1, ep2, q1, q2, q3, q8, q9, ← Int32.not_le, Bool.false_eq_true, Bool.true_eq_false, reduceCtorEq, if_true, if_false, or_false, false_or, or_true, true_or, not_true_eq_false, not_false_eq_true, or_self])]) hW⟩
        · refine aw_alo 0 (pcn := 47) rfl dX7_pay_46 rfl rfl (rf_some _) ?_
          refine aw_getf (pcn := 50) fl_X7_72 dX7_pay_47 rfl hW.mo rfl ?_
          rw [hI0.n18]
          refine aw_ilo 3 (pcn := 51) rfl dX7_pay_50 rfl rfl ?_
          refine aw_iaddN (pcn := 52) dX7_pay_51 rfl ?_
          refine aw_bipush (v := nI 64) (pcn := 54) dX7_pay_52 rfl (by decide) ?_
          refine aw_icmp_le (t := 61) (pcn := 57) dX7_pay_54 rfl (by decide) (fun q13 => ?_) (fun q13 => ?_)
          · refine aw_iconst (v := nI 0) (pcn := 62) dX7_pay_61 rfl (by decide) ?_
            refine aw_istore (pcn := 64) dX7_pay_62 rfl (by decide) ?_
            dsimp only [List.set_cons_zero, List.set_cons_succ]
            refine aw_iconst (v := nI 0) (pcn := 65) dX7_pay_64 rfl (by decide) ?_
            refine aw_istore (pcn := 67) dX7_pay_65 rfl (by decide) ?_
            dsimp only [List.set_cons_zero, List.set_cons_succ]
            have H : ∀ (m k : Nat) (x : Int32), k + m = hN → x = bI (hbA T0 n v k) → AW X l cX7_pay RX7 "pay" (some .int) 11 5 none (qi fun r h' => r = (payT0 T0 n Z hN v e).1 ∧ WD Γ ow h' T (payT0 T0 n Z hN v e).2 nh) 0 0 67 [some (.ref (Γ 14 0)), some (.int v), some (.int e), some (.int (nI hN)), some (.int x), some (.int (nI k)), none, none, none, none, none] [] h := by
              intro m
              induction m with
              | zero  =>
                intro k x hk hx
                subst hx
                refine aw_iload (pcn := 69) dX7_pay_67 rfl rfl ?_
                refine aw_ilo 3 (pcn := 70) rfl dX7_pay_69 rfl rfl ?_
                obtain rfl : hN = k := by omega
                refine aw_icmp_ge (t := 153) (pcn := 73) dX7_pay_70 rfl (by decide) (fun _ => ?_) (fun q => absurd (Int32.le_refl _) q)
                refine aw_iload (pcn := 155) dX7_pay_153 rfl rfl ?_
                refine aw_if_eqB (t := 161) (pcn := 158) dX7_pay_155 rfl (by decide) (fun q14 => ?_) (fun q14 => ?_)
                · have hbad := q14
                  have hZ : Z < 16 := by
                    have e := q8
                    rw [hI0.z3, nI_eq (by omega) (by decide)] at e
                    omega
                  have hpos : 0 < hN := by
                    have e : ¬ hN = 0 := by rw [ep1]; exact q3
                    omega
                  have hsum : n + hN ≤ 64 := by
                    have e : ¬ 64 < n + hN := by rw [ep2]; exact fun x => x q13
                    omega
                  have htk := (hH.1 (hN - 1) (by omega)).2.2.ix (by decide)
                  have hpy := hP hbad hpos hsum hZ
                  refine AW.forget 4 ?_
                  dsimp only [List.set_cons_zero, List.set_cons_succ]
                  refine aw_alo 0 (pcn := 162) rfl dX7_pay_161 rfl rfl (rf_some _) ?_
                  refine aw_alo 0 (pcn := 163) rfl dX7_pay_162 rfl rfl (rf_some _) ?_
                  refine aw_getf (pcn := 166) fl_X7_61 dX7_pay_163 rfl hW.mo rfl ?_
                  refine aw_ilo 3 (pcn := 167) rfl dX7_pay_166 rfl rfl ?_
                  refine aw_iconst (v := nI 1) (pcn := 168) dX7_pay_167 rfl (by decide) ?_
                  refine aw_isub (pcn := 169) dX7_pay_168 rfl ?_
                  rw [pk_sub (show 1 ≤ hN by omega)]
                  refine aw_ialdM (j := 23) (pcn := 170) hW dX7_pay_169 rfl (show _ < 4 by omega) ?_
                  rw [htk.1]
                  refine aw_Vi (pcn := 173) (r_a_secret hW hI0 _) mf_X7_secret mv_X7_secret hW.mo rfl ml_X7_188 rfl (by decide) (by decide) (by decide) (by exact Nat.le_of_ble_eq_true rfl) rfl dX7_pay_170 rfl (fun r h hq => ?_)
                  rw [secretT_eq htk.2 (isPT_of htk.2), if_neg (by rw [hI0.z3, nI_eq (by omega) (by decide)]; omega)] at hq
                  obtain ⟨rfl, hW⟩ := hq
                  have hW : WD Γ ow h T (secT T0 Z (ix (T0 23 (hN - 1)))) nh := hW
                  refine aw_istore (pcn := 175) dX7_pay_173 rfl (by decide) ?_
                  dsimp only [List.set_cons_zero, List.set_cons_succ]
                  refine aw_ilo 2 (pcn := 176) rfl dX7_pay_175 rfl rfl ?_
                  refine aw_istore (pcn := 178) dX7_pay_176 rfl (by decide) ?_
                  dsimp only [List.set_cons_zero, List.set_cons_succ]
                  refine aw_iconst (v := nI 0) (pcn := 179) dX7_pay_178 rfl (by decide) ?_
                  refine aw_istore (pcn := 181) dX7_pay_179 rfl (by decide) ?_
                  dsimp only [List.set_cons_zero, List.set_cons_succ]
                  refine AW.forget 4 ?_
                  dsimp only [List.set_cons_zero, List.set_cons_succ]
                  have H : ∀ (m k : Nat), k + m = hN - 1 → AW X l cX7_pay RX7 "pay" (some .int) 11 5 none (qi fun r h' => r = (payT0 T0 n Z hN v e).1 ∧ WD Γ ow h' T (payT0 T0 n Z hN v e).2 nh) 0 0 181 [some (.ref (Γ 14 0)), some (.int v), some (.int e), some (.int (nI hN)), none, some (.int (nI Z)), some (.int (endE T0 e k)), some (.int (nI k)), none, none, none] [] h := by
                    intro m
                    induction m with
                    | zero  =>
                      intro k hk
                      refine aw_iload (pcn := 183) dX7_pay_181 rfl rfl ?_
                      refine aw_ilo 3 (pcn := 184) rfl dX7_pay_183 rfl rfl ?_
                      refine aw_iconst (v := nI 1) (pcn := 185) dX7_pay_184 rfl (by decide) ?_
                      refine aw_isubN (by omega) (pcn := 186) dX7_pay_185 rfl ?_
                      obtain rfl : k = hN - 1 := by omega
                      refine aw_icmp_ge (t := 214) (pcn := 189) dX7_pay_186 rfl (by decide) (fun _ => ?_) (fun q => absurd (Int32.le_refl _) q)
                      refine aw_iconst (v := nI 0) (pcn := 215) dX7_pay_214 rfl (by decide) ?_
                      refine aw_istore (pcn := 217) dX7_pay_215 rfl (by decide) ?_
                      dsimp only [List.set_cons_zero, List.set_cons_succ]
                      have H : ∀ (m k : Nat), k + m = hN → ∀ h, WD Γ ow h T (pyhA (secT T0 Z (ix (T0 23 (hN - 1)))) n Z v (endE T0 e (hN - 1)) k).1 nh → AW X l cX7_pay RX7 "pay" (some .int) 11 5 none (qi fun r h' => r = (payT0 T0 n Z hN v e).1 ∧ WD Γ ow h' T (payT0 T0 n Z hN v e).2 nh) 0 0 217 [some (.ref (Γ 14 0)), some (.int v), some (.int e), some (.int (nI hN)), none, some (.int (nI Z)), some (.int (pyhA (secT T0 Z (ix (T0 23 (hN - 1)))) n Z v (endE T0 e (hN - 1)) k).2), some (.int (nI k)), none, none, none] [] h := by
                        intro m
                        induction m with
                        | zero  =>
                          intro k hk h hW
                          refine aw_iload (pcn := 219) dX7_pay_217 rfl rfl ?_
                          refine aw_ilo 3 (pcn := 220) rfl dX7_pay_219 rfl rfl ?_
                          obtain rfl : hN = k := by omega
                          refine aw_icmp_ge (t := 306) (pcn := 223) dX7_pay_220 rfl (by decide) (fun _ => ?_) (fun q => absurd (Int32.le_refl _) q)
                          refine aw_iload (pcn := 308) dX7_pay_306 rfl rfl ?_
                          exact aw_iret dX7_pay_308 rfl ⟨_, rfl, ret2 (T' := (pyhA (secT T0 Z (ix (T0 23 (hN - 1)))) n Z v (endE T0 e (hN - 1)) hN).1) (by unfold payT0; rw [if_neg (by simp only [qv, qe, Bool.false_eq_true, Bool.true_eq_false, reduceCtorEq, if_true, if_false, or_false, false_or, or_true, true_or, not_true_eq_false, not_false_eq_true, or_self]), if_neg (by rintro (q | q | q | q); first | omega; first | (rw [hI0.z3, nI_eq (by omega) (by decide)] at q; omega); first | omega; first | (rw [hbad] at q; cases q))]) hW⟩
                        | succ m ih =>
                          intro k hk h hW
                          refine aw_iload (pcn := 219) dX7_pay_217 rfl rfl ?_
                          refine aw_ilo 3 (pcn := 220) rfl dX7_pay_219 rfl rfl ?_
                          refine aw_icmp_ge (t := 306) (pcn := 223) dX7_pay_220 rfl (by decide) (fun q => absurd q (nI_ge (by omega) (by omega))) (fun _ => ?_)
                          have hk4 : k < 4 := by omega
                          have hck := (hH.1 k (by omega)).1.ix (by omega)
                          have hfk := (hH.1 k (by omega)).2.1.ix (by decide)
                          have htk := (hH.1 k (by omega)).2.2.ix (by decide)
                          have hC8 : hpC T0 k < 8 := Nat.lt_of_lt_of_le hck.2 h8
                          have hcC : hpC T0 k < C := hck.2
                          obtain ⟨hJ, hJ9, hJe⟩ := hpy k (by omega)
                          have hnw := hJ.nw hcC hJ9
                          obtain ⟨K, hK, hep⟩ := ep_nI hJe
                          have g21 : (pyhA (secT T0 Z (ix (T0 23 (hN - 1)))) n Z v (endE T0 e (hN - 1)) k).1 21 k = nI (hpC T0 k) := (pyhA_j _ _ _ _ _ _ _ (by decide)).trans hck.1
                          have g22 : (pyhA (secT T0 Z (ix (T0 23 (hN - 1)))) n Z v (endE T0 e (hN - 1)) k).1 22 k = nI (ix (T0 22 k)) := (pyhA_j _ _ _ _ _ _ _ (by decide)).trans hfk.1
                          have g23 : (pyhA (secT T0 Z (ix (T0 23 (hN - 1)))) n Z v (endE T0 e (hN - 1)) k).1 23 k = nI (ix (T0 23 k)) := (pyhA_j _ _ _ _ _ _ _ (by decide)).trans htk.1
                          have g7 : ∀ x, (pyhA (secT T0 Z (ix (T0 23 (hN - 1)))) n Z v (endE T0 e (hN - 1)) k).1 7 x = T0 7 x := fun x => pyhA_j _ _ _ _ _ _ _ (by decide)
                          refine aw_alo 0 (pcn := 224) rfl dX7_pay_223 rfl rfl (rf_some _) ?_
                          refine aw_getf (pcn := 227) fl_X7_55 dX7_pay_224 rfl hW.mo rfl ?_
                          refine aw_iload (pcn := 229) dX7_pay_227 rfl rfl ?_
                          refine aw_ialdM (j := 21) (pcn := 230) hW dX7_pay_229 rfl (show _ < 4 by omega) ?_
                          rw [g21]
                          refine aw_istore (pcn := 232) dX7_pay_230 rfl (by decide) ?_
                          dsimp only [List.set_cons_zero, List.set_cons_succ]
                          refine aw_alo 0 (pcn := 233) rfl dX7_pay_232 rfl rfl (rf_some _) ?_
                          refine aw_iload (pcn := 235) dX7_pay_233 rfl rfl ?_
                          refine aw_Vi (pcn := 238) (r_copied hW (c := hpC T0 k) (n := n + k) (s0 := ix (nwT (pyhA (secT T0 Z (ix (T0 23 (hN - 1)))) n Z v (endE T0 e (hN - 1)) k).1 (hpC T0 k) (n + k))) hC8 hJ.n18 (by omega) hnw.1 hnw.2) mf_X7_copied mv_X7_copied hW.mo rfl ml_X7_152 rfl (by decide) (by decide) (by decide) (by exact Nat.le_of_ble_eq_true rfl) rfl dX7_pay_235 rfl (fun r h hq => ?_)
                          obtain ⟨rfl, hW⟩ := hq
                          refine aw_istore (pcn := 240) dX7_pay_238 rfl (by decide) ?_
                          dsimp only [List.set_cons_zero, List.set_cons_succ]
                          refine aw_alo 0 (pcn := 241) rfl dX7_pay_240 rfl rfl (rf_some _) ?_
                          refine aw_iload (pcn := 243) dX7_pay_241 rfl rfl ?_
                          refine aw_alo 0 (pcn := 244) rfl dX7_pay_243 rfl rfl (rf_some _) ?_
                          refine aw_getf (pcn := 247) fl_X7_58 dX7_pay_244 rfl hW.mo rfl ?_
                          refine aw_iload (pcn := 249) dX7_pay_247 rfl rfl ?_
                          refine aw_ialdM (j := 22) (pcn := 250) hW dX7_pay_249 rfl (show _ < 4 by omega) ?_
                          rw [show (copT (pyhA (secT T0 Z (ix (T0 23 (hN - 1)))) n Z v (endE T0 e (hN - 1)) k).1 (hpC T0 k) (n + k) (ix (nwT (pyhA (secT T0 Z (ix (T0 23 (hN - 1)))) n Z v (endE T0 e (hN - 1)) k).1 (hpC T0 k) (n + k)))) 22 k = nI (ix (T0 22 k)) from (copT_j _ _ _ _ _ (by decide)).trans g22]
                          refine aw_alo 0 (pcn := 251) rfl dX7_pay_250 rfl rfl (rf_some _) ?_
                          refine aw_getf (pcn := 254) fl_X7_61 dX7_pay_251 rfl hW.mo rfl ?_
                          refine aw_iload (pcn := 256) dX7_pay_254 rfl rfl ?_
                          refine aw_ialdM (j := 23) (pcn := 257) hW dX7_pay_256 rfl (show _ < 4 by omega) ?_
                          rw [show (copT (pyhA (secT T0 Z (ix (T0 23 (hN - 1)))) n Z v (endE T0 e (hN - 1)) k).1 (hpC T0 k) (n + k) (ix (nwT (pyhA (secT T0 Z (ix (T0 23 (hN - 1)))) n Z v (endE T0 e (hN - 1)) k).1 (hpC T0 k) (n + k)))) 23 k = nI (ix (T0 23 k)) from (copT_j _ _ _ _ _ (by decide)).trans g23]
                          refine aw_ilo 1 (pcn := 258) rfl dX7_pay_257 rfl rfl ?_
                          refine aw_iload (pcn := 260) dX7_pay_258 rfl rfl ?_
                          refine aw_iload (pcn := 262) dX7_pay_260 rfl rfl ?_
                          refine aw_Vi (pcn := 265) (r_locks hW (S := n + k) (K := K) (P0 := ix (T0 22 k)) (P1 := ix (T0 23 k)) (Z := Z) (by omega) hfk.2 hK hep v _) mf_X7_locks mv_X7_locks hW.mo rfl ml_X7_172 rfl (by decide) (by decide) (by decide) (by exact Nat.le_of_ble_eq_true rfl) rfl dX7_pay_262 rfl (fun r h hq => ?_)
                          obtain ⟨rfl, hW⟩ := hq
                          refine aw_istore (pcn := 267) dX7_pay_265 rfl (by decide) ?_
                          dsimp only [List.set_cons_zero, List.set_cons_succ]
                          refine aw_alo 0 (pcn := 268) rfl dX7_pay_267 rfl rfl (rf_some _) ?_
                          refine aw_getf (pcn := 271) fl_X7_52 dX7_pay_268 rfl hW.mo rfl ?_
                          refine aw_bipush (v := nI 35) (pcn := 273) dX7_pay_271 rfl (by decide) ?_
                          refine aw_iload (pcn := 275) dX7_pay_273 rfl rfl ?_
                          refine aw_imulN (pcn := 276) dX7_pay_275 rfl ?_
                          refine aw_iconst (v := nI 2) (pcn := 277) dX7_pay_276 rfl (by decide) ?_
                          refine aw_iaddN (pcn := 278) dX7_pay_277 rfl ?_
                          refine aw_alo 0 (pcn := 279) rfl dX7_pay_278 rfl rfl (rf_some _) ?_
                          refine aw_getf (pcn := 282) fl_X7_16 dX7_pay_279 rfl hW.mo rfl ?_
                          refine aw_iload (pcn := 284) dX7_pay_282 rfl rfl ?_
                          refine aw_ialdM (j := 6) (pcn := 285) hW dX7_pay_284 rfl (show _ < 8 by omega) ?_
                          rw [show (lksT (copT (pyhA (secT T0 Z (ix (T0 23 (hN - 1)))) n Z v (endE T0 e (hN - 1)) k).1 (hpC T0 k) (n + k) (ix (nwT (pyhA (secT T0 Z (ix (T0 23 (hN - 1)))) n Z v (endE T0 e (hN - 1)) k).1 (hpC T0 k) (n + k)))) (n + k) K (ix (T0 22 k)) (ix (T0 23 k)) Z v (pyhA (secT T0 Z (ix (T0 23 (hN - 1)))) n Z v (endE T0 e (hN - 1)) k).2) 6 (hpC T0 k) = (pyhA (secT T0 Z (ix (T0 23 (hN - 1)))) n Z v (endE T0 e (hN - 1)) k).1 6 (hpC T0 k) from (lksT_j _ _ _ _ _ _ _ _ _ (by decide)).trans (copT_j _ _ _ _ _ (by decide))]
                          refine aw_iastM (j := 19) (pcn := 286) hW dX7_pay_285 rfl (show _ < 2240 by omega) (fun h hW => ?_)
                          refine aw_iload (pcn := 288) dX7_pay_286 rfl rfl ?_
                          refine aw_alo 0 (pcn := 289) rfl dX7_pay_288 rfl rfl (rf_some _) ?_
                          refine aw_getf (pcn := 292) fl_X7_19 dX7_pay_289 rfl hW.mo rfl ?_
                          refine aw_iload (pcn := 294) dX7_pay_292 rfl rfl ?_
                          refine aw_ialdM (j := 7) (pcn := 295) hW dX7_pay_294 rfl (show _ < 8 by omega) ?_
                          rw [show (up (lksT (copT (pyhA (secT T0 Z (ix (T0 23 (hN - 1)))) n Z v (endE T0 e (hN - 1)) k).1 (hpC T0 k) (n + k) (ix (nwT (pyhA (secT T0 Z (ix (T0 23 (hN - 1)))) n Z v (endE T0 e (hN - 1)) k).1 (hpC T0 k) (n + k)))) (n + k) K (ix (T0 22 k)) (ix (T0 23 k)) Z v (pyhA (secT T0 Z (ix (T0 23 (hN - 1)))) n Z v (endE T0 e (hN - 1)) k).2) 19 (35 * (n + k) + 2) ((pyhA (secT T0 Z (ix (T0 23 (hN - 1)))) n Z v (endE T0 e (hN - 1)) k).1 6 (hpC T0 k))) 7 (hpC T0 k) = (pyhA (secT T0 Z (ix (T0 23 (hN - 1)))) n Z v (endE T0 e (hN - 1)) k).1 7 (hpC T0 k) from (up_j _ _ _ _ (by decide)).trans ((lksT_j _ _ _ _ _ _ _ _ _ (by decide)).trans (copT_j _ _ _ _ _ (by decide)))]
                          refine aw_iconst (v := nI 1) (pcn := 296) dX7_pay_295 rfl (by decide) ?_
                          refine aw_iadd (pcn := 297) dX7_pay_296 rfl ?_
                          refine aw_isub (pcn := 298) dX7_pay_297 rfl ?_
                          rw [show (pyhA (secT T0 Z (ix (T0 23 (hN - 1)))) n Z v (endE T0 e (hN - 1)) k).2 - ((pyhA (secT T0 Z (ix (T0 23 (hN - 1)))) n Z v (endE T0 e (hN - 1)) k).1 7 (hpC T0 k) + nI 1) = (pyhA (secT T0 Z (ix (T0 23 (hN - 1)))) n Z v (endE T0 e (hN - 1)) (k + 1)).2 by
                              rw [pyhA, show hpC (pyhA (secT T0 Z (ix (T0 23 (hN - 1)))) n Z v (endE T0 e (hN - 1)) k).1 k = hpC T0 k by show ix _ = _; rw [g21, ix_nI (by omega)]]]
                          refine aw_istore (pcn := 300) dX7_pay_298 rfl (by decide) ?_
                          dsimp only [List.set_cons_zero, List.set_cons_succ]
                          refine aw_iincN (pcn := 303) dX7_pay_300 rfl (by decide) rfl ?_
                          dsimp only [List.set_cons_zero, List.set_cons_succ]
                          refine aw_goto (t := 217) dX7_pay_303 (by decide) ?_
                          refine AW.forget 8 (AW.forget 9 (AW.forget 10 ?_))
                          dsimp only [List.set_cons_zero, List.set_cons_succ]
                          refine ih (k + 1) (by omega) h ?_
                          have hW2 := hW.ghost (j := 25) (i := hpC T0 k) (v := nI (n + k)) (by omega)
                          have e1 : (pyhA (secT T0 Z (ix (T0 23 (hN - 1)))) n Z v (endE T0 e (hN - 1)) (k + 1)).1 = pyhT (pyhA (secT T0 Z (ix (T0 23 (hN - 1)))) n Z v (endE T0 e (hN - 1)) k).1 (n + k) k Z v (pyhA (secT T0 Z (ix (T0 23 (hN - 1)))) n Z v (endE T0 e (hN - 1)) k).2 := rfl
                          rw [e1]; unfold pyhT pyh0
                          rw [show hpC (pyhA (secT T0 Z (ix (T0 23 (hN - 1)))) n Z v (endE T0 e (hN - 1)) k).1 k = hpC T0 k by show ix _ = _; rw [g21, ix_nI (by omega)], hep, ix_nI (by omega), g22, ix_nI (by omega), g23, ix_nI (by omega)]
                          exact hW2
                      exact H hN 0 (by omega) h hW
                    | succ m ih =>
                      intro k hk
                      refine aw_iload (pcn := 183) dX7_pay_181 rfl rfl ?_
                      refine aw_ilo 3 (pcn := 184) rfl dX7_pay_183 rfl rfl ?_
                      refine aw_iconst (v := nI 1) (pcn := 185) dX7_pay_184 rfl (by decide) ?_
                      refine aw_isubN (by omega) (pcn := 186) dX7_pay_185 rfl ?_
                      refine aw_icmp_ge (t := 214) (pcn := 189) dX7_pay_186 rfl (by decide) (fun q => absurd q (nI_ge (by omega) (by omega))) (fun _ => ?_)
                      have hk4 : k < 4 := by omega
                      have hck := (hH.1 k (by omega)).1.ix (by omega)
                      have hC8 : hpC T0 k < 8 := Nat.lt_of_lt_of_le hck.2 h8
                      refine aw_iload (pcn := 191) dX7_pay_189 rfl rfl ?_
                      refine aw_alo 0 (pcn := 192) rfl dX7_pay_191 rfl rfl (rf_some _) ?_
                      refine aw_getf (pcn := 195) fl_X7_19 dX7_pay_192 rfl hW.mo rfl ?_
                      refine aw_alo 0 (pcn := 196) rfl dX7_pay_195 rfl rfl (rf_some _) ?_
                      refine aw_getf (pcn := 199) fl_X7_55 dX7_pay_196 rfl hW.mo rfl ?_
                      refine aw_iload (pcn := 201) dX7_pay_199 rfl rfl ?_
                      refine aw_ialdM (j := 21) (pcn := 202) hW dX7_pay_201 rfl (show _ < 4 by omega) ?_
                      rw [show (secT T0 Z (ix (T0 23 (hN - 1)))) 21 k = nI (hpC T0 k) from hck.1]
                      refine aw_ialdM (j := 7) (pcn := 203) hW dX7_pay_202 rfl (show _ < 8 by omega) ?_
                      refine aw_iconst (v := nI 1) (pcn := 204) dX7_pay_203 rfl (by decide) ?_
                      refine aw_iadd (pcn := 205) dX7_pay_204 rfl ?_
                      refine aw_iadd (pcn := 206) dX7_pay_205 rfl ?_
                      refine aw_istore (pcn := 208) dX7_pay_206 rfl (by decide) ?_
                      dsimp only [List.set_cons_zero, List.set_cons_succ]
                      refine aw_iincN (pcn := 211) dX7_pay_208 rfl (by decide) rfl ?_
                      dsimp only [List.set_cons_zero, List.set_cons_succ]
                      refine aw_goto (t := 181) dX7_pay_211 (by decide) ?_
                      exact ih (k + 1) (by omega)
                  exact H (hN - 1) 0 (by omega)
                · refine aw_bipush (v := -4) (pcn := 160) dX7_pay_158 rfl (by decide) ?_
                  exact aw_iret dX7_pay_160 rfl ⟨_, rfl, ret2 (by unfold payT0; rw [if_neg (by simp only [qv, qe, Bool.false_eq_true, Bool.true_eq_false, reduceCtorEq, if_true, if_false, or_false, false_or, or_true, true_or, not_true_eq_false, not_false_eq_true, or_self]), if_pos (by simp only [ep1, ep2, q1, q2, q3, q8, q13, q14, ← Int32.not_le, Bool.false_eq_true, Bool.true_eq_false, reduceCtorEq, if_true, if_false, or_false, false_or, or_true, true_or, not_true_eq_false, not_false_eq_true, or_self])]) hW⟩
              | succ m ih =>
                intro k x hk hx
                subst hx
                refine aw_iload (pcn := 69) dX7_pay_67 rfl rfl ?_
                refine aw_ilo 3 (pcn := 70) rfl dX7_pay_69 rfl rfl ?_
                refine aw_icmp_ge (t := 153) (pcn := 73) dX7_pay_70 rfl (by decide) (fun q => absurd q (nI_ge (by omega) (by omega))) (fun _ => ?_)
                have hk4 : k < 4 := by omega
                have hck := (hH.1 k (by omega)).1.ix (by omega)
                have hfk := (hH.1 k (by omega)).2.1.ix (by decide)
                have hC8 : hpC T0 k < 8 := Nat.lt_of_lt_of_le hck.2 h8
                have hcC : hpC T0 k < C := hck.2
                refine aw_iload (pcn := 75) dX7_pay_73 rfl rfl ?_
                refine aw_if_neB (t := 153) (pcn := 78) dX7_pay_75 rfl (by decide) (fun q15 => ?_) (fun q15 => ?_)
                · refine aw_iload (pcn := 155) dX7_pay_153 rfl rfl ?_
                  refine aw_if_eqB (t := 161) (pcn := 158) dX7_pay_155 rfl (by decide) (fun q => absurd q (by rw [q15]; decide)) (fun _ => ?_)
                  refine aw_bipush (v := -4) (pcn := 160) dX7_pay_158 rfl (by decide) ?_
                  exact aw_iret dX7_pay_160 rfl ⟨_, rfl, ret2 (by unfold payT0; rw [if_neg (by simp only [qv, qe, Bool.false_eq_true, Bool.true_eq_false, reduceCtorEq, if_true, if_false, or_false, false_or, or_true, true_or, not_true_eq_false, not_false_eq_true, or_self]), if_pos (Or.inr (Or.inr (Or.inr (hbA_mono q15 (by omega)))))]) hW⟩
                · refine aw_alo 0 (pcn := 79) rfl dX7_pay_78 rfl rfl (rf_some _) ?_
                  refine aw_getf (pcn := 82) fl_X7_55 dX7_pay_79 rfl hW.mo rfl ?_
                  refine aw_iload (pcn := 84) dX7_pay_82 rfl rfl ?_
                  refine aw_ialdM (j := 21) (pcn := 85) hW dX7_pay_84 rfl (show _ < 4 by omega) ?_
                  rw [hck.1]
                  refine aw_istore (pcn := 87) dX7_pay_85 rfl (by decide) ?_
                  dsimp only [List.set_cons_zero, List.set_cons_succ]
                  refine aw_alo 0 (pcn := 88) rfl dX7_pay_87 rfl rfl (rf_some _) ?_
                  refine aw_iload (pcn := 90) dX7_pay_88 rfl rfl ?_
                  refine aw_Vi (pcn := 93) (r_newest hW (c := hpC T0 k) (n := n) hC8 (by omega) hI0.n18) mf_X7_newest mv_X7_newest hW.mo rfl ml_X7_117 rfl (by decide) (by decide) (by decide) (by exact Nat.le_of_ble_eq_true rfl) rfl dX7_pay_90 rfl (fun r h2 hq => ?_)
                  obtain ⟨rfl, hq⟩ := hq
                  obtain rfl := hq.symm
                  refine aw_istore (pcn := 95) dX7_pay_93 rfl (by decide) ?_
                  dsimp only [List.set_cons_zero, List.set_cons_succ]
                  refine aw_alo 0 (pcn := 96) rfl dX7_pay_95 rfl rfl (rf_some _) ?_
                  refine aw_getf (pcn := 99) fl_X7_25 dX7_pay_96 rfl hW.mo rfl ?_
                  refine aw_iload (pcn := 101) dX7_pay_99 rfl rfl ?_
                  refine aw_ialdM (j := 9) (pcn := 102) hW dX7_pay_101 rfl (show _ < 8 by omega) ?_
                  refine aw_iconst (v := nI 1) (pcn := 103) dX7_pay_102 rfl (by decide) ?_
                  refine aw_icmp_ne (t := 140) (pcn := 106) dX7_pay_103 rfl (by decide) (fun q16 => ?_) (fun q16 => ?_)
                  · refine aw_iconst (v := nI 1) (pcn := 141) dX7_pay_140 rfl (by decide) ?_
                    refine aw_goto (t := 145) dX7_pay_141 (by decide) ?_
                    refine aw_istore (pcn := 147) dX7_pay_145 rfl (by decide) ?_
                    dsimp only [List.set_cons_zero, List.set_cons_succ]
                    refine aw_iincN (pcn := 150) dX7_pay_147 rfl (by decide) rfl ?_
                    dsimp only [List.set_cons_zero, List.set_cons_succ]
                    refine aw_goto (t := 67) dX7_pay_150 (by decide) ?_
                    refine AW.forget 6 (AW.forget 7 ?_)
                    dsimp only [List.set_cons_zero, List.set_cons_succ]
                    exact ih (k + 1) _ (by omega) (by rw [hbA, q15, Bool.false_or]; unfold hbad; simp only [q15, q16, ← Int32.not_le, Bool.false_eq_true, Bool.true_eq_false, reduceCtorEq, if_true, if_false, or_false, false_or, or_true, true_or, not_true_eq_false, not_false_eq_true, or_self, decide_true, decide_false, Bool.not_true, Bool.not_false, Bool.or_false, Bool.or_true, Bool.false_or, Bool.true_or]; decide)
                  · have hnw := hI0.nw hcC (ph13 q16)
                    rw [hnw.1]
                    refine aw_alo 0 (pcn := 107) rfl dX7_pay_106 rfl rfl (rf_some _) ?_
                    refine aw_getf (pcn := 110) fl_X7_52 dX7_pay_107 rfl hW.mo rfl ?_
                    refine aw_bipush (v := nI 35) (pcn := 112) dX7_pay_110 rfl (by decide) ?_
                    refine aw_iload (pcn := 114) dX7_pay_112 rfl rfl ?_
                    refine aw_imulN (pcn := 115) dX7_pay_114 rfl ?_
                    refine aw_iconst (v := nI 4) (pcn := 116) dX7_pay_115 rfl (by decide) ?_
                    refine aw_iaddN (pcn := 117) dX7_pay_116 rfl ?_
                    refine aw_alo 0 (pcn := 118) rfl dX7_pay_117 rfl rfl (rf_some _) ?_
                    refine aw_getf (pcn := 121) fl_X7_58 dX7_pay_118 rfl hW.mo rfl ?_
                    refine aw_iload (pcn := 123) dX7_pay_121 rfl rfl ?_
                    refine aw_ialdM (j := 22) (pcn := 124) hW dX7_pay_123 rfl (show _ < 4 by omega) ?_
                    rw [hfk.1]
                    refine aw_iaddN (pcn := 125) dX7_pay_124 rfl ?_
                    refine aw_ialdM (j := 19) (pcn := 126) hW dX7_pay_125 rfl (show _ < 2240 by omega) ?_
                    refine aw_ilo 1 (pcn := 127) rfl dX7_pay_126 rfl rfl ?_
                    refine aw_icmp_lt (t := 140) (pcn := 130) dX7_pay_127 rfl (by decide) (fun q17 => ?_) (fun q17 => ?_)
                    · replace q17 := Int32.not_le.mpr q17
                      refine aw_iconst (v := nI 1) (pcn := 141) dX7_pay_140 rfl (by decide) ?_
                      refine aw_goto (t := 145) dX7_pay_141 (by decide) ?_
                      refine aw_istore (pcn := 147) dX7_pay_145 rfl (by decide) ?_
                      dsimp only [List.set_cons_zero, List.set_cons_succ]
                      refine aw_iincN (pcn := 150) dX7_pay_147 rfl (by decide) rfl ?_
                      dsimp only [List.set_cons_zero, List.set_cons_succ]
                      refine aw_goto (t := 67) dX7_pay_150 (by decide) ?_
                      refine AW.forget 6 (AW.forget 7 ?_)
                      dsimp only [List.set_cons_zero, List.set_cons_succ]
                      exact ih (k + 1) _ (by omega) (by rw [hbA, q15, Bool.false_or]; unfold hbad; simp only [q15, q16, q17, ← Int32.not_le, Bool.false_eq_true, Bool.true_eq_false, reduceCtorEq, if_true, if_false, or_false, false_or, or_true, true_or, not_true_eq_false, not_false_eq_true, or_self, decide_true, decide_false, Bool.not_true, Bool.not_false, Bool.or_false, Bool.or_true, Bool.false_or, Bool.true_or]; decide)
                    · replace q17 := Int32.not_lt.mp q17
                      refine aw_alo 0 (pcn := 131) rfl dX7_pay_130 rfl rfl (rf_some _) ?_
                      refine aw_iload (pcn := 133) dX7_pay_131 rfl rfl ?_
                      refine aw_Vi (pcn := 136) (r_emptyPlace hW (S := ix (nwT T0 (hpC T0 k) n)) (by omega)) mf_X7_emptyPlace mv_X7_emptyPlace hW.mo rfl ml_X7_169 rfl (by decide) (by decide) (by decide) (by exact Nat.le_of_ble_eq_true rfl) rfl dX7_pay_133 rfl (fun r h2 hq => ?_)
                      obtain ⟨rfl, hq⟩ := hq
                      obtain rfl := hq.symm
                      refine aw_iconst (v := -1) (pcn := 137) dX7_pay_136 rfl (by decide) ?_
                      refine aw_icmp_ne (t := 144) (pcn := 140) dX7_pay_137 rfl (by decide) (fun q18 => ?_) (fun q18 => ?_)
                      · refine aw_iconst (v := nI 0) (pcn := 145) dX7_pay_144 rfl (by decide) ?_
                        refine aw_istore (pcn := 147) dX7_pay_145 rfl (by decide) ?_
                        dsimp only [List.set_cons_zero, List.set_cons_succ]
                        refine aw_iincN (pcn := 150) dX7_pay_147 rfl (by decide) rfl ?_
                        dsimp only [List.set_cons_zero, List.set_cons_succ]
                        refine aw_goto (t := 67) dX7_pay_150 (by decide) ?_
                        refine AW.forget 6 (AW.forget 7 ?_)
                        dsimp only [List.set_cons_zero, List.set_cons_succ]
                        exact ih (k + 1) _ (by omega) (by rw [hbA, q15, Bool.false_or]; unfold hbad; simp only [q15, q16, q17, q18, ← Int32.not_le, Bool.false_eq_true, Bool.true_eq_false, reduceCtorEq, if_true, if_false, or_false, false_or, or_true, true_or, not_true_eq_false, not_false_eq_true, or_self, decide_true, decide_false, Bool.not_true, Bool.not_false, Bool.or_false, Bool.or_true, Bool.false_or, Bool.true_or]; decide)
                      · refine aw_iconst (v := nI 1) (pcn := 141) dX7_pay_140 rfl (by decide) ?_
                        refine aw_goto (t := 145) dX7_pay_141 (by decide) ?_
                        refine aw_istore (pcn := 147) dX7_pay_145 rfl (by decide) ?_
                        dsimp only [List.set_cons_zero, List.set_cons_succ]
                        refine aw_iincN (pcn := 150) dX7_pay_147 rfl (by decide) rfl ?_
                        dsimp only [List.set_cons_zero, List.set_cons_succ]
                        refine aw_goto (t := 67) dX7_pay_150 (by decide) ?_
                        refine AW.forget 6 (AW.forget 7 ?_)
                        dsimp only [List.set_cons_zero, List.set_cons_succ]
                        exact ih (k + 1) _ (by omega) (by rw [hbA, q15, Bool.false_or]; unfold hbad; simp only [q15, q16, q17, q18, ← Int32.not_le, Bool.false_eq_true, Bool.true_eq_false, reduceCtorEq, if_true, if_false, or_false, false_or, or_true, true_or, not_true_eq_false, not_false_eq_true, or_self, decide_true, decide_false, Bool.not_true, Bool.not_false, Bool.or_false, Bool.or_true, Bool.false_or, Bool.true_or]; decide)
            exact H hN 0 _ (by omega) nI_0
          · refine aw_iconst (v := nI 1) (pcn := 58) dX7_pay_57 rfl (by decide) ?_
            refine aw_goto (t := 62) dX7_pay_58 (by decide) ?_
            refine aw_istore (pcn := 64) dX7_pay_62 rfl (by decide) ?_
            dsimp only [List.set_cons_zero, List.set_cons_succ]
            refine aw_iconst (v := nI 0) (pcn := 65) dX7_pay_64 rfl (by decide) ?_
            refine aw_istore (pcn := 67) dX7_pay_65 rfl (by decide) ?_
            dsimp only [List.set_cons_zero, List.set_cons_succ]
            refine aw_iload (pcn := 69) dX7_pay_67 rfl rfl ?_
            refine aw_ilo 3 (pcn := 70) rfl dX7_pay_69 rfl rfl ?_
            refine aw_icmp_ge (t := 153) (pcn := 73) dX7_pay_70 rfl (by decide) (fun q19 => ?_) (fun q19 => ?_)
            · refine aw_iload (pcn := 155) dX7_pay_153 rfl rfl ?_
              refine aw_if_eq (t := 161) (pcn := 158) dX7_pay_155 rfl (by decide) (fun q20 => absurd q20 (by decide)) (fun q20 => ?_)
              refine aw_bipush (v := -4) (pcn := 160) dX7_pay_158 rfl (by decide) ?_
              exact aw_iret dX7_pay_160 rfl ⟨_, rfl, ret2 (by unfold payT0; rw [if_neg (by simp only [qv, qe, Bool.false_eq_true, Bool.true_eq_false, reduceCtorEq, if_true, if_false, or_false, false_or, or_true, true_or, not_true_eq_false, not_false_eq_true, or_self]), if_pos (by simp only [ep1, ep2, q1, q2, q3, q8, q13, q19, ← Int32.not_le, Bool.false_eq_true, Bool.true_eq_false, reduceCtorEq, if_true, if_false, or_false, false_or, or_true, true_or, not_true_eq_false, not_false_eq_true, or_self])]) hW⟩
            · refine aw_iload (pcn := 75) dX7_pay_73 rfl rfl ?_
              refine aw_if_ne (t := 153) (pcn := 78) dX7_pay_75 rfl (by decide) (fun q21 => ?_) (fun q21 => absurd q21 (by decide))
              refine aw_iload (pcn := 155) dX7_pay_153 rfl rfl ?_
              refine aw_if_eq (t := 161) (pcn := 158) dX7_pay_155 rfl (by decide) (fun q22 => absurd q22 (by decide)) (fun q22 => ?_)
              refine aw_bipush (v := -4) (pcn := 160) dX7_pay_158 rfl (by decide) ?_
              exact aw_iret dX7_pay_160 rfl ⟨_, rfl, ret2 (by unfold payT0; rw [if_neg (by simp only [qv, qe, Bool.false_eq_true, Bool.true_eq_false, reduceCtorEq, if_true, if_false, or_false, false_or, or_true, true_or, not_true_eq_false, not_false_eq_true, or_self]), if_pos (by simp only [ep1, ep2, q1, q2, q3, q8, q13, q19, ← Int32.not_le, Bool.false_eq_true, Bool.true_eq_false, reduceCtorEq, if_true, if_false, or_false, false_or, or_true, true_or, not_true_eq_false, not_false_eq_true, or_self])]) hW⟩
    · refine aw_bipush (v := -3) (pcn := 32) dX7_pay_30 rfl (by decide) ?_
      exact aw_iret dX7_pay_32 rfl ⟨_, rfl, ret2 (by unfold payT0; rw [if_pos (by simp only [q1, q2, Bool.false_eq_true, Bool.true_eq_false, reduceCtorEq, if_true, if_false, or_false, false_or, or_true, true_or, not_true_eq_false, not_false_eq_true, or_self])]) hW⟩
