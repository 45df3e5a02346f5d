/-! the reference's channel; both sides' pay of a sum out of bounds -/
def poorN (T : TB) (set v : Int32) : Nat → Bool
  | 0 => false
  | p + 1 => poorN T set v p || poor1 T set v p
theorem poorN6 (T : TB) (set v : Int32) : poorN T set v 6 = poorT T set v := by
  show ((((((false || poor1 T set v 0) || poor1 T set v 1) || poor1 T set v 2) || poor1 T set v 3) || poor1 T set v 4) || poor1 T set v 5) = _
  rw [Bool.false_or]
  rfl
def depN (T : TB) (n : Nat) (set v : Int32) : Nat → TB
  | 0 => T
  | p + 1 => dep1 (depN T n set v p) n set v p
theorem depN6 (T : TB) (n : Nat) (set v : Int32) : dep6 T n set v = depN T n set v 6 := rfl
theorem poor_a {T : TB} {set v : Int32} {p : Nat} (h : poorN T set v p = true) : nI 1 = bI (poorN T set v (p + 1)) := by
  show nI 1 = bI (poorN T set v p || poor1 T set v p)
  rw [h, Bool.true_or]
  decide
theorem poor_b {T : TB} {set v : Int32} {p : Nat} (h : poorN T set v p = false) (h2 : hasB set (nI p) = false) : nI 0 = bI (poorN T set v (p + 1)) := by
  show nI 0 = bI (poorN T set v p || (hasB set (nI p) && decide (T 0 p < v)))
  rw [h, h2, Bool.false_or, Bool.false_and]
  decide
theorem poor_c {T : TB} {set v : Int32} {p : Nat} (h : poorN T set v p = false) (h3 : v ≤ T 0 p) : nI 0 = bI (poorN T set v (p + 1)) := by
  show nI 0 = bI (poorN T set v p || (hasB set (nI p) && decide (T 0 p < v)))
  rw [h, decide_eq_false (Int32.not_lt.mpr h3), Bool.false_or, Bool.and_false]
  decide
theorem poor_d {T : TB} {set v : Int32} {p : Nat} (h : poorN T set v p = false) (h2 : hasB set (nI p) = true) (h3 : ¬ v ≤ T 0 p) : nI 1 = bI (poorN T set v (p + 1)) := by
  show nI 1 = bI (poorN T set v p || (hasB set (nI p) && decide (T 0 p < v)))
  rw [h, h2, decide_eq_true (Int32.not_le.mp h3), Bool.false_or, Bool.true_and]
  decide
theorem dep_y {T : TB} {n : Nat} {set v : Int32} {p : Nat} (h : hasB set (nI p) = true) : depN T n set v (p + 1) = up (up (depN T n set v p) 0 p (depN T n set v p 0 p - v)) 19 (35 * n + 4 + p) v := by
  show dep1 _ _ _ _ _ = _
  unfold dep1
  rw [if_pos h]
theorem dep_n {T : TB} {n : Nat} {set v : Int32} {p : Nat} (h : hasB set (nI p) = false) : depN T n set v (p + 1) = depN T n set v p := by
  show dep1 _ _ _ _ _ = _
  unfold dep1
  rw [if_neg (by rw [h]; decide)]
theorem WD.eqr {Γ : NM} {ow : Nat → Nat × Nat} {h : Hp} {T Tr Tr' : TB} {nh : Nat} (H : WD Γ ow h T Tr nh) (e : Tr' = Tr) : WD Γ ow h T Tr' nh := by rw [e]; exact H
set_option maxHeartbeats 1600000 in
set_option maxRecDepth 20000 in
theorem r_a_channel {X : XG} {l : Launch} {Γ : NM} {ow : Nat → Nat × Nat} {h : Hp} {T Tr : TB} {nh : Nat} (hW : WD Γ ow h T Tr nh) {i C n Z hN : Nat} (hI : Iv i Tr C n Z hN) (set v d : Int32) : AM X l yX7_channel cX7_channel 9 (some .int) 2 0 0 [.ref (Γ 14 0), .int set, .int v, .int d] h (qi fun r h' => r = (channelT Tr C n set v d).1 ∧ WD Γ ow h' T (channelT Tr C n set v d).2 nh) := by
  refine AM.of (by decide +kernel) (by simp [Value.category]) (Nat.le_of_ble_eq_true rfl) ?_
  show AW X l cX7_channel RX7 "channel" (some .int) 9 2 none _ 0 0 0 [some (.ref (Γ 14 0)), some (.int set), some (.int v), some (.int d), none, none, none, none, none] [] h
  have h64 := hI.n64
  have h8 := hI.C8
  have h16 := hI.Z16
  have h4 := hI.h4
  refine aw_ilo 1 (pcn := 1) rfl dX7_channel_0 rfl rfl ?_
  refine aw_iconst (v := nI 0) (pcn := 2) dX7_channel_1 rfl (by decide) ?_
  refine aw_bipush (v := nI 63) (pcn := 4) dX7_channel_2 rfl (by decide) ?_
  refine aw_Si (pcn := 7) (r_isIn _ _ _) mf_X7_isIn mv_X7_isIn ml_X7_64 rfl (by decide) (by decide) (by decide) (by exact Nat.le_of_ble_eq_true rfl) rfl dX7_channel_4 rfl (fun r h2 hq => ?_)
  obtain ⟨rfl, hq⟩ := hq
  obtain rfl := hq.symm
  refine aw_if_neB (t := 12) (pcn := 10) dX7_channel_7 rfl (by decide) (fun q1 => ?_) (fun q1 => ?_)
  · refine aw_ilo 1 (pcn := 13) rfl dX7_channel_12 rfl rfl ?_
    refine aw_Si (pcn := 16) (r_size _) mf_X7_size mv_X7_size ml_X7_143 rfl (by decide) (by decide) (by decide) (by exact Nat.le_of_ble_eq_true rfl) rfl dX7_channel_13 rfl (fun r h2 hq => ?_)
    obtain ⟨rfl, hq⟩ := hq
    obtain rfl := hq.symm
    refine aw_istore (pcn := 18) dX7_channel_16 rfl (by decide) ?_
    dsimp only [List.set_cons_zero, List.set_cons_succ]
    refine aw_ilo 2 (pcn := 19) rfl dX7_channel_18 rfl rfl ?_
    refine aw_iconst (v := nI 0) (pcn := 20) dX7_channel_19 rfl (by decide) ?_
    refine aw_sipush (v := nI 10000) (pcn := 23) dX7_channel_20 rfl (by decide) ?_
    refine aw_Si (pcn := 26) (r_isIn _ _ _) mf_X7_isIn mv_X7_isIn ml_X7_64 rfl (by decide) (by decide) (by decide) (by exact Nat.le_of_ble_eq_true rfl) rfl dX7_channel_23 rfl (fun r h2 hq => ?_)
    obtain ⟨rfl, hq⟩ := hq
    obtain rfl := hq.symm
    refine aw_if_eqB (t := 49) (pcn := 29) dX7_channel_26 rfl (by decide) (fun q2 => ?_) (fun q2 => ?_)
    · refine aw_bipush (v := -3) (pcn := 51) dX7_channel_49 rfl (by decide) ?_
      exact aw_iret dX7_channel_51 rfl ⟨_, rfl, ret2 (by first | (simp only [channelT, q1, q2, Bool.false_eq_true, Bool.true_eq_false, reduceCtorEq, if_true, if_false, or_false, false_or, or_true, true_or, and_true, true_and, and_false, false_and, not_true_eq_false, not_false_eq_true, or_self, ← Int32.not_le, frT, isCT, isST, isPT, isZT, shiT]; done)) hW⟩
    · refine aw_ilo 3 (pcn := 30) rfl dX7_channel_29 rfl rfl ?_
      refine aw_iconst (v := nI 2) (pcn := 31) dX7_channel_30 rfl (by decide) ?_
      refine aw_bipush (v := nI 20) (pcn := 33) dX7_channel_31 rfl (by decide) ?_
      refine aw_Si (pcn := 36) (r_isIn _ _ _) mf_X7_isIn mv_X7_isIn ml_X7_64 rfl (by decide) (by decide) (by decide) (by exact Nat.le_of_ble_eq_true rfl) rfl dX7_channel_33 rfl (fun r h2 hq => ?_)
      obtain ⟨rfl, hq⟩ := hq
      obtain rfl := hq.symm
      refine aw_if_eqB (t := 49) (pcn := 39) dX7_channel_36 rfl (by decide) (fun q3 => ?_) (fun q3 => ?_)
      · refine aw_bipush (v := -3) (pcn := 51) dX7_channel_49 rfl (by decide) ?_
        exact aw_iret dX7_channel_51 rfl ⟨_, rfl, ret2 (by first | (simp only [channelT, q1, q2, q3, Bool.false_eq_true, Bool.true_eq_false, reduceCtorEq, if_true, if_false, or_false, false_or, or_true, true_or, and_true, true_and, and_false, false_and, not_true_eq_false, not_false_eq_true, or_self, ← Int32.not_le, frT, isCT, isST, isPT, isZT, shiT]; done)) hW⟩
      · refine aw_iload (pcn := 41) dX7_channel_39 rfl rfl ?_
        refine aw_iconst (v := nI 2) (pcn := 42) dX7_channel_41 rfl (by decide) ?_
        refine aw_iconst (v := nI 4) (pcn := 43) dX7_channel_42 rfl (by decide) ?_
        refine aw_Si (pcn := 46) (r_isIn _ _ _) mf_X7_isIn mv_X7_isIn ml_X7_64 rfl (by decide) (by decide) (by decide) (by exact Nat.le_of_ble_eq_true rfl) rfl dX7_channel_43 rfl (fun r h2 hq => ?_)
        obtain ⟨rfl, hq⟩ := hq
        obtain rfl := hq.symm
        refine aw_if_neB (t := 52) (pcn := 49) dX7_channel_46 rfl (by decide) (fun q4 => ?_) (fun q4 => ?_)
        · refine aw_iconst (v := nI 0) (pcn := 53) dX7_channel_52 rfl (by decide) ?_
          refine aw_istore (pcn := 55) dX7_channel_53 rfl (by decide) ?_
          dsimp only [List.set_cons_zero, List.set_cons_succ]
          refine aw_iconst (v := nI 0) (pcn := 56) dX7_channel_55 rfl (by decide) ?_
          refine aw_istore (pcn := 58) dX7_channel_56 rfl (by decide) ?_
          dsimp only [List.set_cons_zero, List.set_cons_succ]
          have H : ∀ (m p : Nat) (x : Int32), p + m = 6 → x = bI (poorN Tr set v p) → AW X l cX7_channel RX7 "channel" (some .int) 9 2 none (qi fun r h' => r = (channelT Tr C n set v d).1 ∧ WD Γ ow h' T (channelT Tr C n set v d).2 nh) 0 0 58 [some (.ref (Γ 14 0)), some (.int set), some (.int v), some (.int d), some (.int (sizeT set)), some (.int x), some (.int (nI p)), none, none] [] h := by
            intro m
            induction m with
            | zero  =>
              intro p x hp hx
              subst hx
              refine aw_iload (pcn := 60) dX7_channel_58 rfl rfl ?_
              refine aw_bipush (v := nI 6) (pcn := 62) dX7_channel_60 rfl (by decide) ?_
              obtain rfl : p = 6 := by omega
              rw [poorN6]
              refine aw_icmp_ge (t := 103) (pcn := 65) dX7_channel_62 rfl (by decide) (fun _ => ?_) (fun q => absurd (Int32.le_refl _) q)
              refine aw_alo 0 (pcn := 104) rfl dX7_channel_103 rfl rfl (rf_some _) ?_
              refine aw_getf (pcn := 107) fl_X7_68 dX7_channel_104 rfl hW.mo rfl ?_
              refine aw_bipush (v := nI 8) (pcn := 109) dX7_channel_107 rfl (by decide) ?_
              refine aw_icmp_eq (t := 126) (pcn := 112) dX7_channel_109 rfl (by decide) (fun q5 => ?_) (fun q5 => ?_)
              · refine aw_bipush (v := -4) (pcn := 128) dX7_channel_126 rfl (by decide) ?_
                exact aw_iret dX7_channel_128 rfl ⟨_, rfl, ret2 (by first | (simp only [channelT, q1, q2, q3, q4, q5, Bool.false_eq_true, Bool.true_eq_false, reduceCtorEq, if_true, if_false, or_false, false_or, or_true, true_or, and_true, true_and, and_false, false_and, not_true_eq_false, not_false_eq_true, or_self, ← Int32.not_le, frT, isCT, isST, isPT, isZT, shiT]; done)) hW⟩
              · refine aw_alo 0 (pcn := 113) rfl dX7_channel_112 rfl rfl (rf_some _) ?_
                refine aw_getf (pcn := 116) fl_X7_72 dX7_channel_113 rfl hW.mo rfl ?_
                refine aw_bipush (v := nI 64) (pcn := 118) dX7_channel_116 rfl (by decide) ?_
                refine aw_icmp_eq (t := 126) (pcn := 121) dX7_channel_118 rfl (by decide) (fun q6 => ?_) (fun q6 => ?_)
                · refine aw_bipush (v := -4) (pcn := 128) dX7_channel_126 rfl (by decide) ?_
                  exact aw_iret dX7_channel_128 rfl ⟨_, rfl, ret2 (by first | (simp only [channelT, q1, q2, q3, q4, q5, q6, Bool.false_eq_true, Bool.true_eq_false, reduceCtorEq, if_true, if_false, or_false, false_or, or_true, true_or, and_true, true_and, and_false, false_and, not_true_eq_false, not_false_eq_true, or_self, ← Int32.not_le, frT, isCT, isST, isPT, isZT, shiT]; done)) hW⟩
                · refine aw_iload (pcn := 123) dX7_channel_121 rfl rfl ?_
                  refine aw_if_eqB (t := 129) (pcn := 126) dX7_channel_123 rfl (by decide) (fun q7 => ?_) (fun q7 => ?_)
                  · have hC8 : C < 8 := by
                      rcases Nat.lt_or_ge C 8 with e | e
                      · exact e
                      · exact absurd (by rw [hI.c5, show C = 8 by omega]) q5
                    have hn64 : n < 64 := by
                      rcases Nat.lt_or_ge n 64 with e | e
                      · exact e
                      · exact absurd (by rw [hI.n18, show n = 64 by omega]) q6
                    refine aw_alo 0 (pcn := 130) rfl dX7_channel_129 rfl rfl (rf_some _) ?_
                    refine aw_getf (pcn := 133) fl_X7_68 dX7_channel_130 rfl hW.mo rfl ?_
                    rw [hI.c5]
                    refine aw_istore (pcn := 135) dX7_channel_133 rfl (by decide) ?_
                    dsimp only [List.set_cons_zero, List.set_cons_succ]
                    refine aw_alo 0 (pcn := 136) rfl dX7_channel_135 rfl rfl (rf_some _) ?_
                    refine aw_dup (pcn := 137) dX7_channel_136 rfl rfl ?_
                    refine aw_getf (pcn := 140) fl_X7_68 dX7_channel_137 rfl hW.mo rfl ?_
                    rw [hI.c5]
                    refine aw_iconst (v := nI 1) (pcn := 141) dX7_channel_140 rfl (by decide) ?_
                    refine aw_iaddN (pcn := 142) dX7_channel_141 rfl ?_
                    refine aw_putM (pcn := 145) hW fp_X7_68 rfl (ms_5 _ _ _) (by decide) dX7_channel_142 rfl (fun h hW => ?_)
                    refine aw_alo 0 (pcn := 146) rfl dX7_channel_145 rfl rfl (rf_some _) ?_
                    refine aw_getf (pcn := 149) fl_X7_16 dX7_channel_146 rfl hW.mo rfl ?_
                    refine aw_iload (pcn := 151) dX7_channel_149 rfl rfl ?_
                    refine aw_ilo 1 (pcn := 152) rfl dX7_channel_151 rfl rfl ?_
                    refine aw_iastM (j := 6) (pcn := 153) hW dX7_channel_152 rfl (show _ < 8 by omega) (fun h hW => ?_)
                    refine aw_alo 0 (pcn := 154) rfl dX7_channel_153 rfl rfl (rf_some _) ?_
                    refine aw_getf (pcn := 157) fl_X7_19 dX7_channel_154 rfl hW.mo rfl ?_
                    refine aw_iload (pcn := 159) dX7_channel_157 rfl rfl ?_
                    refine aw_ilo 3 (pcn := 160) rfl dX7_channel_159 rfl rfl ?_
                    refine aw_iastM (j := 7) (pcn := 161) hW dX7_channel_160 rfl (show _ < 8 by omega) (fun h hW => ?_)
                    refine aw_alo 0 (pcn := 162) rfl dX7_channel_161 rfl rfl (rf_some _) ?_
                    refine aw_getf (pcn := 165) fl_X7_22 dX7_channel_162 rfl hW.mo rfl ?_
                    refine aw_iload (pcn := 167) dX7_channel_165 rfl rfl ?_
                    refine aw_iload (pcn := 169) dX7_channel_167 rfl rfl ?_
                    refine aw_ilo 2 (pcn := 170) rfl dX7_channel_169 rfl rfl ?_
                    refine aw_imul (pcn := 171) dX7_channel_170 rfl ?_
                    refine aw_iastM (j := 8) (pcn := 172) hW dX7_channel_171 rfl (show _ < 8 by omega) (fun h hW => ?_)
                    refine aw_alo 0 (pcn := 173) rfl dX7_channel_172 rfl rfl (rf_some _) ?_
                    refine aw_getf (pcn := 176) fl_X7_25 dX7_channel_173 rfl hW.mo rfl ?_
                    refine aw_iload (pcn := 178) dX7_channel_176 rfl rfl ?_
                    refine aw_iconst (v := nI 1) (pcn := 179) dX7_channel_178 rfl (by decide) ?_
                    refine aw_iastM (j := 9) (pcn := 180) hW dX7_channel_179 rfl (show _ < 8 by omega) (fun h hW => ?_)
                    refine aw_alo 0 (pcn := 181) rfl dX7_channel_180 rfl rfl (rf_some _) ?_
                    refine aw_getf (pcn := 184) fl_X7_28 dX7_channel_181 rfl hW.mo rfl ?_
                    refine aw_iload (pcn := 186) dX7_channel_184 rfl rfl ?_
                    refine aw_iconst (v := -1) (pcn := 187) dX7_channel_186 rfl (by decide) ?_
                    refine aw_iastM (j := 10) (pcn := 188) hW dX7_channel_187 rfl (show _ < 8 by omega) (fun h hW => ?_)
                    refine aw_alo 0 (pcn := 189) rfl dX7_channel_188 rfl rfl (rf_some _) ?_
                    refine aw_iload (pcn := 191) dX7_channel_189 rfl rfl ?_
                    have hG1 := hW.ghost (j := 24) (i := C) (v := nI 0) (by omega)
                    have hG2 := hG1.ghost (j := 26) (i := C) (v := 0) (by omega)
                    have hG3 := hG2.ghost (j := 27) (i := C) (v := 0) (by omega)
                    have hW : WD Γ ow h T (chn0 Tr C set v d) nh := hG3
                    have hn : chn0 Tr C set v d 18 0 = nI n := hI.n18
                    refine aw_Vi (pcn := 194) (r_blank hW (c := C) (n := n) hn hn64) mf_X7_blank mv_X7_blank hW.mo rfl ml_X7_146 rfl (by decide) (by decide) (by decide) (by exact Nat.le_of_ble_eq_true rfl) rfl dX7_channel_191 rfl (fun r h hq => ?_)
                    obtain ⟨rfl, hW⟩ := hq
                    refine aw_istore (pcn := 196) dX7_channel_194 rfl (by decide) ?_
                    dsimp only [List.set_cons_zero, List.set_cons_succ]
                    refine aw_iconst (v := nI 0) (pcn := 197) dX7_channel_196 rfl (by decide) ?_
                    refine aw_istore (pcn := 199) dX7_channel_197 rfl (by decide) ?_
                    dsimp only [List.set_cons_zero, List.set_cons_succ]
                    obtain ⟨B, eB⟩ : ∃ B, B = (blkT (chn0 Tr C set v d) C n) := ⟨_, rfl⟩
                    rw [← eB] at hW
                    have H2 : ∀ (m p : Nat) (h : Hp), p + m = 6 → WD Γ ow h T (depN B n set v p) nh → AW X l cX7_channel RX7 "channel" (some .int) 9 2 none (qi fun r h' => r = (channelT Tr C n set v d).1 ∧ WD Γ ow h' T (channelT Tr C n set v d).2 nh) 0 0 199 [some (.ref (Γ 14 0)), some (.int set), some (.int v), some (.int d), some (.int (sizeT set)), some (.int (bI (poorT Tr set v))), some (.int (nI C)), some (.int (nI n)), some (.int (nI p))] [] h := by
                      intro m
                      induction m with
                      | zero  =>
                        intro p h hp hW
                        refine aw_iload (pcn := 201) dX7_channel_199 rfl rfl ?_
                        refine aw_bipush (v := nI 6) (pcn := 203) dX7_channel_201 rfl (by decide) ?_
                        obtain rfl : p = 6 := by omega
                        refine aw_icmp_ge (t := 248) (pcn := 206) dX7_channel_203 rfl (by decide) (fun _ => ?_) (fun q => absurd (Int32.le_refl _) q)
                        refine aw_alo 0 (pcn := 249) rfl dX7_channel_248 rfl rfl (rf_some _) ?_
                        refine aw_getf (pcn := 252) fl_X7_52 dX7_channel_249 rfl hW.mo rfl ?_
                        refine aw_bipush (v := nI 35) (pcn := 254) dX7_channel_252 rfl (by decide) ?_
                        refine aw_iload (pcn := 256) dX7_channel_254 rfl rfl ?_
                        refine aw_imulN (pcn := 257) dX7_channel_256 rfl ?_
                        refine aw_iconst (v := nI 2) (pcn := 258) dX7_channel_257 rfl (by decide) ?_
                        refine aw_iaddN (pcn := 259) dX7_channel_258 rfl ?_
                        refine aw_ilo 1 (pcn := 260) rfl dX7_channel_259 rfl rfl ?_
                        refine aw_iastM (j := 19) (pcn := 261) hW dX7_channel_260 rfl (show _ < 2240 by omega) (fun h hW => ?_)
                        refine aw_iload (pcn := 263) dX7_channel_261 rfl rfl ?_
                        exact aw_iret dX7_channel_263 rfl ⟨_, rfl, ret2 (by unfold channelT; rw [if_neg (by simp only [q1, Bool.false_eq_true, Bool.true_eq_false, reduceCtorEq, if_true, if_false, or_false, false_or, or_true, true_or, and_true, true_and, and_false, false_and, not_true_eq_false, not_false_eq_true, or_self, ← Int32.not_le, frT, isCT, isST, isPT, isZT, shiT]), if_neg (by simp only [q2, q3, q4, Bool.false_eq_true, Bool.true_eq_false, reduceCtorEq, if_true, if_false, or_false, false_or, or_true, true_or, and_true, true_and, and_false, false_and, not_true_eq_false, not_false_eq_true, or_self, ← Int32.not_le, frT, isCT, isST, isPT, isZT, shiT]), if_neg (by simp only [q5, q6, q7, Bool.false_eq_true, Bool.true_eq_false, reduceCtorEq, if_true, if_false, or_false, false_or, or_true, true_or, and_true, true_and, and_false, false_and, not_true_eq_false, not_false_eq_true, or_self, ← Int32.not_le, frT, isCT, isST, isPT, isZT, shiT])]; unfold chn1; rw [depN6, ← eB]) (hW.ghost (j := 25) (i := C) (v := nI n) (by omega))⟩
                      | succ m ih =>
                        intro p h hp hW
                        refine aw_iload (pcn := 201) dX7_channel_199 rfl rfl ?_
                        refine aw_bipush (v := nI 6) (pcn := 203) dX7_channel_201 rfl (by decide) ?_
                        refine aw_icmp_ge (t := 248) (pcn := 206) dX7_channel_203 rfl (by decide) (fun q => absurd q (nI_ge (by omega) (by omega))) (fun _ => ?_)
                        refine aw_ilo 1 (pcn := 207) rfl dX7_channel_206 rfl rfl ?_
                        refine aw_iload (pcn := 209) dX7_channel_207 rfl rfl ?_
                        refine aw_Si (pcn := 212) (r_has _ _) mf_X7_has mv_X7_has ml_X7_79 rfl (by decide) (by decide) (by decide) (by exact Nat.le_of_ble_eq_true rfl) rfl dX7_channel_209 rfl (fun r h2 hq => ?_)
                        obtain ⟨rfl, hq⟩ := hq
                        obtain rfl := hq.symm
                        refine aw_if_eqB (t := 242) (pcn := 215) dX7_channel_212 rfl (by decide) (fun q8 => ?_) (fun q8 => ?_)
                        · refine aw_iincN (pcn := 245) dX7_channel_242 rfl (by decide) rfl ?_
                          dsimp only [List.set_cons_zero, List.set_cons_succ]
                          refine aw_goto (t := 199) dX7_channel_245 (by decide) ?_
                          exact ih (p + 1) _ (by omega) (hW.eqr (by first | exact dep_y q8 | exact dep_n q8))
                        · refine aw_alo 0 (pcn := 216) rfl dX7_channel_215 rfl rfl (rf_some _) ?_
                          refine aw_getf (pcn := 219) fl_X7_7 dX7_channel_216 rfl hW.mo rfl ?_
                          refine aw_iload (pcn := 221) dX7_channel_219 rfl rfl ?_
                          refine aw_dup2 (pcn := 222) dX7_channel_221 rfl rfl rfl ?_
                          refine aw_ialdM (j := 0) (pcn := 223) hW dX7_channel_222 rfl (show _ < 6 by omega) ?_
                          refine aw_ilo 2 (pcn := 224) rfl dX7_channel_223 rfl rfl ?_
                          refine aw_isub (pcn := 225) dX7_channel_224 rfl ?_
                          refine aw_iastM (j := 0) (pcn := 226) hW dX7_channel_225 rfl (show _ < 6 by omega) (fun h hW => ?_)
                          refine aw_alo 0 (pcn := 227) rfl dX7_channel_226 rfl rfl (rf_some _) ?_
                          refine aw_getf (pcn := 230) fl_X7_52 dX7_channel_227 rfl hW.mo rfl ?_
                          refine aw_bipush (v := nI 35) (pcn := 232) dX7_channel_230 rfl (by decide) ?_
                          refine aw_iload (pcn := 234) dX7_channel_232 rfl rfl ?_
                          refine aw_imulN (pcn := 235) dX7_channel_234 rfl ?_
                          refine aw_iconst (v := nI 4) (pcn := 236) dX7_channel_235 rfl (by decide) ?_
                          refine aw_iaddN (pcn := 237) dX7_channel_236 rfl ?_
                          refine aw_iload (pcn := 239) dX7_channel_237 rfl rfl ?_
                          refine aw_iaddN (pcn := 240) dX7_channel_239 rfl ?_
                          refine aw_ilo 2 (pcn := 241) rfl dX7_channel_240 rfl rfl ?_
                          refine aw_iastM (j := 19) (pcn := 242) hW dX7_channel_241 rfl (show _ < 2240 by omega) (fun h hW => ?_)
                          refine aw_iincN (pcn := 245) dX7_channel_242 rfl (by decide) rfl ?_
                          dsimp only [List.set_cons_zero, List.set_cons_succ]
                          refine aw_goto (t := 199) dX7_channel_245 (by decide) ?_
                          exact ih (p + 1) _ (by omega) (hW.eqr (by first | exact dep_y q8 | exact dep_n q8))
                    exact H2 6 0 _ (by omega) hW
                  · refine aw_bipush (v := -4) (pcn := 128) dX7_channel_126 rfl (by decide) ?_
                    exact aw_iret dX7_channel_128 rfl ⟨_, rfl, ret2 (by first | (simp only [channelT, q1, q2, q3, q4, q5, q6, q7, Bool.false_eq_true, Bool.true_eq_false, reduceCtorEq, if_true, if_false, or_false, false_or, or_true, true_or, and_true, true_and, and_false, false_and, not_true_eq_false, not_false_eq_true, or_self, ← Int32.not_le, frT, isCT, isST, isPT, isZT, shiT]; done)) hW⟩
            | succ m ih =>
              intro p x hp hx
              subst hx
              refine aw_iload (pcn := 60) dX7_channel_58 rfl rfl ?_
              refine aw_bipush (v := nI 6) (pcn := 62) dX7_channel_60 rfl (by decide) ?_
              refine aw_icmp_ge (t := 103) (pcn := 65) dX7_channel_62 rfl (by decide) (fun q => absurd q (nI_ge (by omega) (by omega))) (fun _ => ?_)
              refine aw_iload (pcn := 67) dX7_channel_65 rfl rfl ?_
              refine aw_if_neB (t := 90) (pcn := 70) dX7_channel_67 rfl (by decide) (fun q9 => ?_) (fun q9 => ?_)
              · refine aw_iconst (v := nI 1) (pcn := 91) dX7_channel_90 rfl (by decide) ?_
                refine aw_goto (t := 95) dX7_channel_91 (by decide) ?_
                refine aw_istore (pcn := 97) dX7_channel_95 rfl (by decide) ?_
                dsimp only [List.set_cons_zero, List.set_cons_succ]
                refine aw_iincN (pcn := 100) dX7_channel_97 rfl (by decide) rfl ?_
                dsimp only [List.set_cons_zero, List.set_cons_succ]
                refine aw_goto (t := 58) dX7_channel_100 (by decide) ?_
                exact ih (p + 1) _ (by omega) (by first | exact poor_a (by assumption) | exact poor_d (by assumption) (by assumption) (by assumption) | exact poor_b (by assumption) (by assumption) | exact poor_c (by assumption) (by assumption))
              · refine aw_ilo 1 (pcn := 71) rfl dX7_channel_70 rfl rfl ?_
                refine aw_iload (pcn := 73) dX7_channel_71 rfl rfl ?_
                refine aw_Si (pcn := 76) (r_has _ _) mf_X7_has mv_X7_has ml_X7_79 rfl (by decide) (by decide) (by decide) (by exact Nat.le_of_ble_eq_true rfl) rfl dX7_channel_73 rfl (fun r h2 hq => ?_)
                obtain ⟨rfl, hq⟩ := hq
                obtain rfl := hq.symm
                refine aw_if_eqB (t := 94) (pcn := 79) dX7_channel_76 rfl (by decide) (fun q10 => ?_) (fun q10 => ?_)
                · refine aw_iconst (v := nI 0) (pcn := 95) dX7_channel_94 rfl (by decide) ?_
                  refine aw_istore (pcn := 97) dX7_channel_95 rfl (by decide) ?_
                  dsimp only [List.set_cons_zero, List.set_cons_succ]
                  refine aw_iincN (pcn := 100) dX7_channel_97 rfl (by decide) rfl ?_
                  dsimp only [List.set_cons_zero, List.set_cons_succ]
                  refine aw_goto (t := 58) dX7_channel_100 (by decide) ?_
                  exact ih (p + 1) _ (by omega) (by first | exact poor_a (by assumption) | exact poor_d (by assumption) (by assumption) (by assumption) | exact poor_b (by assumption) (by assumption) | exact poor_c (by assumption) (by assumption))
                · refine aw_alo 0 (pcn := 80) rfl dX7_channel_79 rfl rfl (rf_some _) ?_
                  refine aw_getf (pcn := 83) fl_X7_7 dX7_channel_80 rfl hW.mo rfl ?_
                  refine aw_iload (pcn := 85) dX7_channel_83 rfl rfl ?_
                  refine aw_ialdM (j := 0) (pcn := 86) hW dX7_channel_85 rfl (show _ < 6 by omega) ?_
                  refine aw_ilo 2 (pcn := 87) rfl dX7_channel_86 rfl rfl ?_
                  refine aw_icmp_ge (t := 94) (pcn := 90) dX7_channel_87 rfl (by decide) (fun q11 => ?_) (fun q11 => ?_)
                  · refine aw_iconst (v := nI 0) (pcn := 95) dX7_channel_94 rfl (by decide) ?_
                    refine aw_istore (pcn := 97) dX7_channel_95 rfl (by decide) ?_
                    dsimp only [List.set_cons_zero, List.set_cons_succ]
                    refine aw_iincN (pcn := 100) dX7_channel_97 rfl (by decide) rfl ?_
                    dsimp only [List.set_cons_zero, List.set_cons_succ]
                    refine aw_goto (t := 58) dX7_channel_100 (by decide) ?_
                    exact ih (p + 1) _ (by omega) (by first | exact poor_a (by assumption) | exact poor_d (by assumption) (by assumption) (by assumption) | exact poor_b (by assumption) (by assumption) | exact poor_c (by assumption) (by assumption))
                  · refine aw_iconst (v := nI 1) (pcn := 91) dX7_channel_90 rfl (by decide) ?_
                    refine aw_goto (t := 95) dX7_channel_91 (by decide) ?_
                    refine aw_istore (pcn := 97) dX7_channel_95 rfl (by decide) ?_
                    dsimp only [List.set_cons_zero, List.set_cons_succ]
                    refine aw_iincN (pcn := 100) dX7_channel_97 rfl (by decide) rfl ?_
                    dsimp only [List.set_cons_zero, List.set_cons_succ]
                    refine aw_goto (t := 58) dX7_channel_100 (by decide) ?_
                    exact ih (p + 1) _ (by omega) (by first | exact poor_a (by assumption) | exact poor_d (by assumption) (by assumption) (by assumption) | exact poor_b (by assumption) (by assumption) | exact poor_c (by assumption) (by assumption))
          exact H 6 0 _ (by omega) nI_0
        · refine aw_bipush (v := -3) (pcn := 51) dX7_channel_49 rfl (by decide) ?_
          exact aw_iret dX7_channel_51 rfl ⟨_, rfl, ret2 (by first | (simp only [channelT, q1, q2, q3, q4, Bool.false_eq_true, Bool.true_eq_false, reduceCtorEq, if_true, if_false, or_false, false_or, or_true, true_or, and_true, true_and, and_false, false_and, not_true_eq_false, not_false_eq_true, or_self, ← Int32.not_le, frT, isCT, isST, isPT, isZT, shiT]; done)) hW⟩
  · refine aw_iconst (v := -1) (pcn := 11) dX7_channel_10 rfl (by decide) ?_
    exact aw_iret dX7_channel_11 rfl ⟨_, rfl, ret2 (by first | (simp only [channelT, q1, Bool.false_eq_true, Bool.true_eq_false, reduceCtorEq, if_true, if_false, or_false, false_or, or_true, true_or, and_true, true_and, and_false, false_and, not_true_eq_false, not_false_eq_true, or_self, ← Int32.not_le, frT, isCT, isST, isPT, isZT, shiT]; done)) hW⟩

theorem r_payN {X : XG} {l : Launch} {Γ : NM} {ow : Nat → Nat × Nat} {h : Hp} {T Tr : TB} {nh : Nat} (hW : WD Γ ow h T Tr nh) (v e : Int32) (hv : inR v (nI 1) (nI 60000) = false) : AM X l yX7_pay cX7_pay 11 (some .int) 5 0 0 [.ref (Γ 14 0), .int v, .int e] h (qi fun r h' => r = -3 ∧ WD Γ ow h' T (up Tr 20 0 (nI 0)) nh) := by
  refine AM.of (by decide +kernel) (by simp [Value.category]) (Nat.le_of_ble_eq_true rfl) ?_
  show AW X l cX7_pay RX7 "pay" (some .int) 11 5 none _ 0 0 0 [some (.ref (Γ 14 0)), some (.int v), some (.int e), none, none, none, none, none, none, none, none] [] h
  refine aw_alo 0 (pcn := 1) rfl dX7_pay_0 rfl rfl (rf_some _) ?_
  refine aw_getf (pcn := 4) fl_X7_185 dX7_pay_1 rfl hW.mo rfl ?_
  refine aw_ist 3 (pcn := 5) rfl dX7_pay_4 rfl (by decide) ?_
  dsimp only [List.set_cons_zero, List.set_cons_succ]
  refine aw_alo 0 (pcn := 6) rfl dX7_pay_5 rfl rfl (rf_some _) ?_
  refine aw_iconst (v := nI 0) (pcn := 7) dX7_pay_6 rfl (by decide) ?_
  refine aw_putM (pcn := 10) hW fp_X7_185 rfl (ms_20 _ _ _) (by decide) dX7_pay_7 rfl (fun h hW => ?_)
  refine aw_ilo 1 (pcn := 11) rfl dX7_pay_10 rfl rfl ?_
  refine aw_iconst (v := nI 1) (pcn := 12) dX7_pay_11 rfl (by decide) ?_
  refine aw_ldc (pcn := 14) ct_X7_161 dX7_pay_12 rfl ?_
  rw [show (60000 : Int32) = nI 60000 by decide]
  refine aw_Si (pcn := 17) (r_isIn _ _ _) mf_X7_isIn mv_X7_isIn ml_X7_64 rfl (by decide) (by decide) (by decide) (by exact Nat.le_of_ble_eq_true rfl) rfl dX7_pay_14 rfl (fun r h2 hq => ?_)
  obtain ⟨rfl, hq⟩ := hq
  obtain rfl := hq.symm
  refine aw_if_eqB (t := 30) (pcn := 20) dX7_pay_17 rfl (by decide) (fun q1 => ?_) (fun q1 => absurd hv (by rw [q1]; decide))
  refine aw_bipush (v := -3) (pcn := 32) dX7_pay_30 rfl (by decide) ?_
  exact aw_iret dX7_pay_32 rfl ⟨_, rfl, rfl, hW⟩
theorem c_payN {X : XG} {l : Launch} {Γ : NM} {ow : Nat → Nat × Nat} {h : Hp} {T Tr : TB} {nh : Nat} (hW : WD Γ ow h T Tr nh) (v e : Int32) (hv : inR v (nI 1) (nI 60000) = false) : AM X l yX6_pay cX6_pay 9 (some .int) 6 28 124 [.ref (Γ 0 0), .int v, .int e] h (qi fun r h' => r = -3 ∧ WD Γ ow h' (up T 20 0 (nI 0)) Tr nh) := by
  refine AM.of (by decide +kernel) (by simp [Value.category]) (Nat.le_of_ble_eq_true rfl) ?_
  show AW X l cX6_pay RX6 "pay" (some .int) 9 6 none _ 28 124 0 [some (.ref (Γ 0 0)), some (.int v), some (.int e), none, none, none, none, none, none] [] h
  refine aw_alo 0 (pcn := 1) rfl dX6_pay_0 rfl rfl (rf_some _) ?_
  refine aw_getf (pcn := 4) fl_X6_329 dX6_pay_1 rfl hW.sc rfl ?_
  refine aw_ist 3 (pcn := 5) rfl dX6_pay_4 rfl (by decide) ?_
  dsimp only [List.set_cons_zero, List.set_cons_succ]
  refine aw_alo 0 (pcn := 6) rfl dX6_pay_5 rfl rfl (rf_some _) ?_
  refine aw_iconst (v := nI 0) (pcn := 7) dX6_pay_6 rfl (by decide) ?_
  refine aw_putO (pcn := 10) (j' := 20) hW fp_X6_329 (by decide) (by decide) (os_8 _ _ _) dX6_pay_7 rfl (fun h hW hk => ?_)
  refine aw_ilo 1 (pcn := 11) rfl dX6_pay_10 rfl rfl ?_
  refine aw_iconst (v := nI 1) (pcn := 12) dX6_pay_11 rfl (by decide) ?_
  refine aw_ldc (pcn := 14) ct_X6_132 dX6_pay_12 rfl ?_
  rw [show (60000 : Int32) = nI 60000 by decide]
  refine aw_Si (pcn := 17) (c_isWithin _ _ _) mf_X6_isWithin mv_X6_isWithin ml_X6_42 rfl (by decide) (by decide) (by decide) (by exact Nat.le_of_ble_eq_true rfl) rfl dX6_pay_14 rfl (fun r h2 hq => ?_)
  obtain ⟨rfl, hq⟩ := hq
  obtain rfl := hq.symm
  refine aw_if_eqB (t := 30) (pcn := 20) dX6_pay_17 rfl (by decide) (fun q1 => ?_) (fun q1 => absurd hv (by rw [q1]; decide))
  refine aw_bipush (v := -3) (pcn := 32) dX6_pay_30 rfl (by decide) ?_
  exact aw_iret dX6_pay_32 rfl ⟨_, rfl, rfl, hW⟩
