/-! the class's face: agreeing, secrets, claims, steps, watching, heights, looking -/
theorem WD.inj8 {Γ : NM} {ow : Nat → Nat × Nat} {h : Hp} {T Tr : TB} {nh : Nat} (H : WD Γ ow h T Tr nh) {s s' : Nat} (hs : s < ix (T 18 0)) (hs' : s' < ix (T 18 0)) (e : Γ 8 s = Γ 8 s') : s = s' := by
  have h1 := H.1 8 s (v8 hs (by decide) (by decide))
  rw [e, H.1 8 s' (v8 hs' (by decide) (by decide))] at h1
  exact (congrArg Prod.snd h1).symm
theorem bits_in : ∀ (w : Fin 64) (p : Fin 6), bitT (nI w) p = (if hasB (nI w) (nI p) = true then nI 1 else nI 0) ∧ wchV (nI w) p (nI 1) = nI w ||| shiT p ∧ wchV (nI w) p (nI 0) = nI w &&& (shiT p ^^^ -1) := by decide +kernel
theorem wch_in {w : Int32} (h : okI w 64) {P : Nat} (hP : P < 6) : bitT w P = (if hasB w (nI P) = true then nI 1 else nI 0) ∧ wchV w P (nI 1) = w ||| shiT P ∧ wchV w P (nI 0) = w &&& (shiT P ^^^ -1) := by
  obtain ⟨g, h1, rfl⟩ := h
  exact bits_in ⟨g, h1⟩ ⟨P, hP⟩
theorem bits_had : ∀ (g : Fin 64) (p : Fin 6), (nI g ||| shiT p = nI g) = (hasB (nI g) (nI p) = true) := by decide +kernel
theorem had_or {x : Int32} (h : okI x 64) {P : Nat} (hP : P < 6) : (x ||| shiT P = x) = (hasB x (nI P) = true) := by
  obtain ⟨g, h1, rfl⟩ := h
  exact bits_had ⟨g, h1⟩ ⟨P, hP⟩
set_option maxHeartbeats 1600000 in
set_option maxRecDepth 20000 in
theorem c_a_agree {X : XG} {l : Launch} {Γ : NM} {ow : Nat → Nat × Nat} {h : Hp} {T Tr : TB} {nh : Nat} (hW : WD Γ ow h T Tr nh) {i C n Z hN : Nat} (hI : Iv i T C n Z hN) (s f : Int32) : AM X l yX6_agree cX6_agree 6 (some .int) 5 0 0 [.ref (Γ 0 0), .int s, .int f] h (qi fun r h' => r = (agreeT T n s f).1 ∧ WD Γ ow h' (agreeT T n s f).2 Tr nh) := by
  refine AM.of (by decide +kernel) (by simp [Value.category]) (Nat.le_of_ble_eq_true rfl) ?_
  show AW X l cX6_agree RX6 "agree" (some .int) 6 5 none _ 0 0 0 [some (.ref (Γ 0 0)), some (.int s), some (.int f), none, none, none] [] h
  have h64 := hI.n64
  have h8 := hI.C8
  have h16 := hI.Z16
  have h4 := hI.h4
  refine aw_alo 0 (pcn := 1) rfl dX6_agree_0 rfl rfl (rf_some _) ?_
  refine aw_ilo 1 (pcn := 2) rfl dX6_agree_1 rfl rfl ?_
  refine aw_Vr (pcn := 5) (c_stateAt hW hI _) mf_X6_stateAt mv_X6_stateAt hW.sc rfl ml_X6_123 rfl (by decide) (by decide) (by decide) (by exact Nat.le_of_ble_eq_true rfl) rfl dX6_agree_2 rfl (fun r h2 hq => ?_)
  obtain ⟨hq, hh⟩ := hq
  obtain rfl := hh.symm
  rcases hq with ⟨e0, rfl⟩ | ⟨S, c, hSn, hcC, hc0, rfl, hst, rfl⟩
  · have e1 : isOfT T s f = false := of_no e0 f
    refine aw_ast 3 (pcn := 6) rfl dX6_agree_5 rfl (by decide) (rf_none) ?_
    dsimp only [List.set_cons_zero, List.set_cons_succ]
    refine aw_alo 3 (pcn := 7) rfl dX6_agree_6 rfl rfl (rf_none) ?_
    refine aw_ifnull (t := 18) (pcn := 10) dX6_agree_7 rfl (by decide) (rf_none) (fun q1 => ?_) (fun a2 q1 => by cases q1)
    clear q1
    refine aw_iconst (v := -1) (pcn := 19) dX6_agree_18 rfl (by decide) ?_
    exact aw_iret dX6_agree_19 rfl ⟨_, rfl, ret3 (by first | (simp only [agreeT, e1, Bool.false_eq_true, Bool.true_eq_false, reduceCtorEq, if_true, if_false, or_false, false_or, or_true, true_or, and_true, true_and, and_false, false_and, not_true_eq_false, not_false_eq_true, or_self, ← Int32.not_le, shiT]; done) | (rw [agreeT_eq hS hc8 hc0 hF (by assumption)]; simp only [e1, Bool.false_eq_true, Bool.true_eq_false, reduceCtorEq, if_true, if_false, or_false, false_or, or_true, true_or, and_true, true_and, and_false, false_and, not_true_eq_false, not_false_eq_true, or_self, ← Int32.not_le, shiT]; done) | (rw [agreeT_eq hS hc8 hc0 hF (by assumption)]; simp only [e1, Bool.false_eq_true, Bool.true_eq_false, reduceCtorEq, if_true, if_false, or_false, false_or, or_true, true_or, and_true, true_and, and_false, false_and, not_true_eq_false, not_false_eq_true, or_self, ← Int32.not_le, shiT]; rfl) | (rw [agreeT_eq hS hc8 hc0 hF (by assumption)]; rfl)) hW⟩
  · have hS : S < 64 := by omega
    have hc8 : c < 8 := by omega
    have vc := hI.vc hcC
    have vs := hI.vs hSn
    refine aw_ast 3 (pcn := 6) rfl dX6_agree_5 rfl (by decide) (rf_some _) ?_
    dsimp only [List.set_cons_zero, List.set_cons_succ]
    refine aw_alo 3 (pcn := 7) rfl dX6_agree_6 rfl rfl (rf_some _) ?_
    refine aw_ifnull (t := 18) (pcn := 10) dX6_agree_7 rfl (by decide) (rf_some _) (fun q3 => by cases q3) (fun a4 q3 => ?_)
    clear q3 a4
    refine aw_alo 3 (pcn := 11) rfl dX6_agree_10 rfl rfl (rf_some _) ?_
    refine aw_ilo 2 (pcn := 12) rfl dX6_agree_11 rfl rfl ?_
    obtain ⟨gs, hs, hgs⟩ := hW.st (s := S) vs hc8 hc0
    refine aw_Vi (pcn := 15) (c_hasM hW hI hSn hcC hc0 _) mf_X4_hasMember mv_X4_hasMember hs rfl ml_X6_127 rfl (by decide) (by decide) (by decide) (by exact Nat.le_of_ble_eq_true rfl) rfl dX6_agree_12 rfl (fun r h2 hq => ?_)
    obtain ⟨rfl, hq⟩ := hq
    obtain rfl := hq.symm
    rw [hI.ofm hSn hcC hc0]
    refine aw_if_neB (t := 20) (pcn := 18) dX6_agree_15 rfl (by decide) (fun q5 => ?_) (fun q5 => ?_)
    · obtain ⟨F, hF, rfl⟩ := Iv.oOfP q5
      refine aw_alo 3 (pcn := 21) rfl dX6_agree_20 rfl rfl (rf_some _) ?_
      obtain ⟨gs, hs, hgs⟩ := hW.st (s := S) vs hc8 hc0
      refine aw_getf (pcn := 24) fl_X6_195 dX6_agree_21 rfl hs rfl ?_
      refine aw_astore (pcn := 26) dX6_agree_24 rfl (by decide) (rf_some _) ?_
      dsimp only [List.set_cons_zero, List.set_cons_succ]
      refine aw_aload (pcn := 28) dX6_agree_26 rfl rfl (rf_some _) ?_
      obtain ⟨g, hc, hg⟩ := hW.ch (c := c) vc
      refine aw_getf (pcn := 31) fl_X6_97 dX6_agree_28 rfl hc rfl ?_
      refine aw_iconst (v := nI 1) (pcn := 32) dX6_agree_31 rfl (by decide) ?_
      refine aw_icmp_eq (t := 38) (pcn := 35) dX6_agree_32 rfl (by decide) (fun q6 => ?_) (fun q6 => ?_)
      · refine aw_alo 3 (pcn := 39) rfl dX6_agree_38 rfl rfl (rf_some _) ?_
        refine aw_aload (pcn := 41) dX6_agree_39 rfl rfl (rf_some _) ?_
        obtain ⟨g, hc, hg⟩ := hW.ch (c := c) vc
        refine aw_getf (pcn := 44) fl_X6_86 dX6_agree_41 rfl hc rfl ?_
        obtain ⟨h25, s0, hs0n, hnw⟩ := (hI.ch hcC).2.2.2.2.2.2.2.1 (ph13 q6)
        rw [h25, hnw, sref_nI (by omega)]
        refine aw_acmp_ne (t := 58) (pcn := 47) dX6_agree_44 rfl (by decide) (rf_some _) (rf_some _) (fun q7 => ?_) (fun q7 => ?_)
        · refine aw_bipush (v := -4) (pcn := 60) dX6_agree_58 rfl (by decide) ?_
          exact aw_iret dX6_agree_60 rfl ⟨_, rfl, ret3 (by rw [agreeT_eq hS hc8 hc0 hF (by assumption), if_neg (Classical.not_not.mpr q6), if_pos (Or.inl (fun e => q7 (by rw [hnw, nI_eq (by omega) (by omega)] at e; rw [e])))]) hW⟩
        · have hns : nwT T c n = nI S := by rw [hnw, hW.inj8 vs (hI.vs hs0n) (Option.some.inj (show some (Γ 8 S) = some (Γ 8 s0) from q7))]
          refine aw_alo 3 (pcn := 48) rfl dX6_agree_47 rfl rfl (rf_some _) ?_
          obtain ⟨gs, hs, hgs⟩ := hW.st (s := S) vs hc8 hc0
          refine aw_getf (pcn := 51) fl_X6_215 dX6_agree_48 rfl hs rfl ?_
          refine aw_ilo 2 (pcn := 52) rfl dX6_agree_51 rfl rfl ?_
          refine aw_Si (pcn := 55) (c_isIn _ _) mf_X6_isIn mv_X6_isIn ml_X6_107 rfl (by decide) (by decide) (by decide) (by exact Nat.le_of_ble_eq_true rfl) rfl dX6_agree_52 rfl (fun r h2 hq => ?_)
          obtain ⟨rfl, hq⟩ := hq
          obtain rfl := hq.symm
          rw [inB_has (hI.st hSn).2.1 hF]
          refine aw_if_eqB (t := 61) (pcn := 58) dX6_agree_55 rfl (by decide) (fun q8 => ?_) (fun q8 => ?_)
          · refine aw_alo 3 (pcn := 62) rfl dX6_agree_61 rfl rfl (rf_some _) ?_
            refine aw_dup (pcn := 63) dX6_agree_62 rfl rfl ?_
            obtain ⟨gs, hs, hgs⟩ := hW.st (s := S) vs hc8 hc0
            refine aw_getf (pcn := 66) fl_X6_215 dX6_agree_63 rfl hs rfl ?_
            refine aw_iconst (v := nI 1) (pcn := 67) dX6_agree_66 rfl (by decide) ?_
            refine aw_ilo 2 (pcn := 68) rfl dX6_agree_67 rfl rfl ?_
            refine aw_ishl (pcn := 69) dX6_agree_68 rfl ?_
            refine aw_ior (pcn := 70) dX6_agree_69 rfl ?_
            obtain ⟨hsk, hse⟩ := addB (hI.st hSn).2.1 hF q8
            rw [show T 19 (35 * S + 3) ||| nI 1 <<< (nI F &&& 31) = T 19 (35 * S + 3) + shiT F from hse.symm]
            refine aw_putS (pcn := 73) hW vs hs fp_X6_215 (by decide) (VF.i _) (ss_8 _ _ _ _ _ _) (hW.stW vs hc8 hc0 hgs (j := 3) (by decide)) dX6_agree_70 rfl (fun h hW hk => ?_)
            have hc0o := hc0
            have hc0 : agr0 T S F 19 (35 * S + 0) = nI c := by unfold agr0; rw [up_i _ _ _ (by omega)]; exact hc0
            have hW : WD Γ ow h (agr0 T S F) Tr nh := hW
            have hIa := hI.agr hSn hc8 hc0o (ph13 q6) hF q8
            refine aw_alo 3 (pcn := 74) rfl dX6_agree_73 rfl rfl (rf_some _) ?_
            obtain ⟨gs, hs, hgs⟩ := hW.st (s := S) vs hc8 hc0
            refine aw_getf (pcn := 77) fl_X6_215 dX6_agree_74 rfl hs rfl ?_
            rw [show agr0 T S F 19 (35 * S + 3) = T 19 (35 * S + 3) + shiT F from up_s _ _ _ _]
            refine aw_istore (pcn := 79) dX6_agree_77 rfl (by decide) ?_
            dsimp only [List.set_cons_zero, List.set_cons_succ]
            refine aw_iload (pcn := 81) dX6_agree_79 rfl rfl ?_
            refine aw_aload (pcn := 83) dX6_agree_81 rfl rfl (rf_some _) ?_
            obtain ⟨g, hc, hg⟩ := hW.ch (c := c) vc
            refine aw_getf (pcn := 86) fl_X6_218 dX6_agree_83 rfl hc rfl ?_
            rw [show agr0 T S F 6 c = T 6 c from rfl]
            refine aw_icmp_ne (t := 94) (pcn := 89) dX6_agree_86 rfl (by decide) (fun q9 => ?_) (fun q9 => ?_)
            · refine aw_iload (pcn := 96) dX6_agree_94 rfl rfl ?_
              refine aw_Si (pcn := 99) (c_bitCount _) mf_J6_bitCount_0f7a4 mv_J6_bitCount_0f7a4 ml_X6_46 rfl (by decide) (by decide) (by decide) (by exact Nat.le_of_ble_eq_true rfl) rfl dX6_agree_96 rfl (fun r h2 hq => ?_)
              obtain ⟨rfl, hq⟩ := hq
              obtain rfl := hq.symm
              exact aw_iret dX6_agree_99 rfl ⟨_, rfl, ret3 (by rw [agreeT_eq hS hc8 hc0o hF (by assumption), if_neg (Classical.not_not.mpr q6), if_neg (by rintro (x | x); exact x hns; rw [q8] at x; cases x), bc_size hsk]; first | (rw [if_pos q9]; done) | (rw [if_neg q9]; done) | (rw [if_pos q9]; rfl) | (rw [if_neg q9]; rfl)) hW⟩
            · refine aw_alo 0 (pcn := 90) rfl dX6_agree_89 rfl rfl (rf_some _) ?_
              refine aw_alo 3 (pcn := 91) rfl dX6_agree_90 rfl rfl (rf_some _) ?_
              refine aw_Vv (pcn := 94) (c_fulfil hW hIa hSn hcC hc0 (show ¬ agr0 T S F 9 c = nI 3 from ph13 (by assumption))) mf_X6_fulfil mv_X6_fulfil hW.sc rfl ml_X6_221 rfl (by decide) (by decide) (by decide) (by exact Nat.le_of_ble_eq_true rfl) rfl dX6_agree_91 rfl (fun h hW => ?_)
              refine aw_iload (pcn := 96) dX6_agree_94 rfl rfl ?_
              refine aw_Si (pcn := 99) (c_bitCount _) mf_J6_bitCount_0f7a4 mv_J6_bitCount_0f7a4 ml_X6_46 rfl (by decide) (by decide) (by decide) (by exact Nat.le_of_ble_eq_true rfl) rfl dX6_agree_96 rfl (fun r h2 hq => ?_)
              obtain ⟨rfl, hq⟩ := hq
              obtain rfl := hq.symm
              exact aw_iret dX6_agree_99 rfl ⟨_, rfl, ret3 (by rw [agreeT_eq hS hc8 hc0o hF (by assumption), if_neg (Classical.not_not.mpr q6), if_neg (by rintro (x | x); exact x hns; rw [q8] at x; cases x), bc_size hsk]; first | (rw [if_pos q9]; done) | (rw [if_neg q9]; done) | (rw [if_pos q9]; rfl) | (rw [if_neg q9]; rfl)) hW⟩
          · refine aw_bipush (v := -4) (pcn := 60) dX6_agree_58 rfl (by decide) ?_
            exact aw_iret dX6_agree_60 rfl ⟨_, rfl, ret3 (by rw [agreeT_eq hS hc8 hc0 hF (by assumption), if_neg (Classical.not_not.mpr q6), if_pos (Or.inr q8)]) hW⟩
      · refine aw_bipush (v := -2) (pcn := 37) dX6_agree_35 rfl (by decide) ?_
        exact aw_iret dX6_agree_37 rfl ⟨_, rfl, ret3 (by rw [agreeT_eq hS hc8 hc0 hF (by assumption), if_pos q6]) hW⟩
    · refine aw_iconst (v := -1) (pcn := 19) dX6_agree_18 rfl (by decide) ?_
      exact aw_iret dX6_agree_19 rfl ⟨_, rfl, ret3 (by first | (simp only [agreeT, hst, q5, Bool.false_eq_true, Bool.true_eq_false, reduceCtorEq, if_true, if_false, or_false, false_or, or_true, true_or, and_true, true_and, and_false, false_and, not_true_eq_false, not_false_eq_true, or_self, ← Int32.not_le, shiT]; done) | (rw [agreeT_eq hS hc8 hc0 hF (by assumption)]; simp only [hst, q5, Bool.false_eq_true, Bool.true_eq_false, reduceCtorEq, if_true, if_false, or_false, false_or, or_true, true_or, and_true, true_and, and_false, false_and, not_true_eq_false, not_false_eq_true, or_self, ← Int32.not_le, shiT]; done) | (rw [agreeT_eq hS hc8 hc0 hF (by assumption)]; simp only [hst, q5, Bool.false_eq_true, Bool.true_eq_false, reduceCtorEq, if_true, if_false, or_false, false_or, or_true, true_or, and_true, true_and, and_false, false_and, not_true_eq_false, not_false_eq_true, or_self, ← Int32.not_le, shiT]; rfl) | (rw [agreeT_eq hS hc8 hc0 hF (by assumption)]; rfl)) hW⟩

set_option maxHeartbeats 1600000 in
set_option maxRecDepth 20000 in
theorem c_a_secret {X : XG} {l : Launch} {Γ : NM} {ow : Nat → Nat × Nat} {h : Hp} {T Tr : TB} {nh : Nat} (hW : WD Γ ow h T Tr nh) {i C n Z hN : Nat} (hI : Iv i T C n Z hN) (p : Int32) : AM X l yX6_secret cX6_secret 2 (some .int) 1 0 0 [.ref (Γ 0 0), .int p] h (qi fun r h' => r = (secretT T Z p).1 ∧ WD Γ ow h' (secretT T Z p).2 Tr nh) := by
  refine AM.of (by decide +kernel) (by simp [Value.category]) (Nat.le_of_ble_eq_true rfl) ?_
  show AW X l cX6_secret RX6 "secret" (some .int) 2 1 none _ 0 0 0 [some (.ref (Γ 0 0)), some (.int p)] [] h
  have h64 := hI.n64
  have h8 := hI.C8
  have h16 := hI.Z16
  have h4 := hI.h4
  refine aw_ilo 1 (pcn := 1) rfl dX6_secret_0 rfl rfl ?_
  refine aw_Si (pcn := 4) (c_isParty _) mf_X6_isParty mv_X6_isParty ml_X6_262 rfl (by decide) (by decide) (by decide) (by exact Nat.le_of_ble_eq_true rfl) rfl dX6_secret_1 rfl (fun r h2 hq => ?_)
  obtain ⟨rfl, hq⟩ := hq
  obtain rfl := hq.symm
  refine aw_if_neB (t := 9) (pcn := 7) dX6_secret_4 rfl (by decide) (fun q1 => ?_) (fun q1 => ?_)
  · obtain ⟨F, hF, rfl⟩ := isPT_nI q1
    refine aw_alo 0 (pcn := 10) rfl dX6_secret_9 rfl rfl (rf_some _) ?_
    refine aw_Vi (pcn := 13) (c_hasRoomZ hW hI) mf_X6_hasRoomForSecret mv_X6_hasRoomForSecret hW.sc rfl ml_X6_265 rfl (by decide) (by decide) (by decide) (by exact Nat.le_of_ble_eq_true rfl) rfl dX6_secret_10 rfl (fun r h2 hq => ?_)
    obtain ⟨rfl, hq⟩ := hq
    obtain rfl := hq.symm
    refine aw_if_neB (t := 19) (pcn := 16) dX6_secret_13 rfl (by decide) (fun q2 => ?_) (fun q2 => ?_)
    · have q16 : ¬ T 3 0 = nI 16 := fun e => by rw [decide_eq_true e] at q2; cases q2
      have hZ : Z < 16 := by
        rcases Nat.lt_or_ge Z 16 with e | e
        · exact e
        · exact absurd (by rw [hI.z3, show Z = 16 by omega]) q16
      refine aw_alo 0 (pcn := 20) rfl dX6_secret_19 rfl rfl (rf_some _) ?_
      refine aw_ilo 1 (pcn := 21) rfl dX6_secret_20 rfl rfl ?_
      refine aw_Vi (pcn := 24) (c_newSecret hW hI hZ hF) mf_X6_newSecret mv_X6_newSecret hW.sc rfl ml_X6_268 rfl (by decide) (by decide) (by decide) (by exact Nat.le_of_ble_eq_true rfl) rfl dX6_secret_21 rfl (fun r h hq => ?_)
      obtain ⟨rfl, hW⟩ := hq
      exact aw_iret dX6_secret_24 rfl ⟨_, rfl, ret3 (by rw [secretT_eq hF (by assumption), if_neg q16]) hW⟩
    · refine aw_bipush (v := -4) (pcn := 18) dX6_secret_16 rfl (by decide) ?_
      exact aw_iret dX6_secret_18 rfl ⟨_, rfl, ret3 (by rw [secretT_eq hF (by assumption), if_pos (by cases e : decide (T 3 0 = nI 16) with | true => exact of_decide_eq_true e | false => rw [e] at q2; cases q2)]) hW⟩
  · refine aw_iconst (v := -1) (pcn := 8) dX6_secret_7 rfl (by decide) ?_
    exact aw_iret dX6_secret_8 rfl ⟨_, rfl, ret3 (by first | (simp only [secretT, q1, Bool.false_eq_true, Bool.true_eq_false, reduceCtorEq, if_true, if_false, or_false, false_or, or_true, true_or, and_true, true_and, and_false, false_and, not_true_eq_false, not_false_eq_true, or_self, ← Int32.not_le, shiT]; done) | (rw [secretT_eq hF (by assumption)]; simp only [q1, Bool.false_eq_true, Bool.true_eq_false, reduceCtorEq, if_true, if_false, or_false, false_or, or_true, true_or, and_true, true_and, and_false, false_and, not_true_eq_false, not_false_eq_true, or_self, ← Int32.not_le, shiT]; done) | (rw [secretT_eq hF (by assumption)]; simp only [q1, Bool.false_eq_true, Bool.true_eq_false, reduceCtorEq, if_true, if_false, or_false, false_or, or_true, true_or, and_true, true_and, and_false, false_and, not_true_eq_false, not_false_eq_true, or_self, ← Int32.not_le, shiT]; rfl) | (rw [secretT_eq hF (by assumption)]; rfl)) (hW)⟩

set_option maxHeartbeats 1600000 in
set_option maxRecDepth 20000 in
theorem c_a_tell {X : XG} {l : Launch} {Γ : NM} {ow : Nat → Nat × Nat} {h : Hp} {T Tr : TB} {nh : Nat} (hW : WD Γ ow h T Tr nh) {i C n Z hN : Nat} (hI : Iv i T C n Z hN) (z f t : Int32) : AM X l yX6_tell cX6_tell 4 (some .int) 2 0 0 [.ref (Γ 0 0), .int z, .int f, .int t] h (qi fun r h' => r = (tellT T z f t).1 ∧ WD Γ ow h' (tellT T z f t).2 Tr nh) := by
  refine AM.of (by decide +kernel) (by simp [Value.category]) (Nat.le_of_ble_eq_true rfl) ?_
  show AW X l cX6_tell RX6 "tell" (some .int) 4 2 none _ 0 0 0 [some (.ref (Γ 0 0)), some (.int z), some (.int f), some (.int t)] [] h
  have h64 := hI.n64
  have h8 := hI.C8
  have h16 := hI.Z16
  have h4 := hI.h4
  refine aw_alo 0 (pcn := 1) rfl dX6_tell_0 rfl rfl (rf_some _) ?_
  refine aw_ilo 1 (pcn := 2) rfl dX6_tell_1 rfl rfl ?_
  refine aw_Vi (pcn := 5) (c_isSecret hW hI _) mf_X6_isSecret mv_X6_isSecret hW.sc rfl ml_X6_136 rfl (by decide) (by decide) (by decide) (by exact Nat.le_of_ble_eq_true rfl) rfl dX6_tell_2 rfl (fun r h2 hq => ?_)
  obtain ⟨rfl, hq⟩ := hq
  obtain rfl := hq.symm
  refine aw_if_eqB (t := 22) (pcn := 8) dX6_tell_5 rfl (by decide) (fun q1 => ?_) (fun q1 => ?_)
  · refine aw_iconst (v := -1) (pcn := 23) dX6_tell_22 rfl (by decide) ?_
    exact aw_iret dX6_tell_23 rfl ⟨_, rfl, ret3 (by first | (simp only [tellT, q1, Bool.false_eq_true, Bool.true_eq_false, reduceCtorEq, if_true, if_false, or_false, false_or, or_true, true_or, and_true, true_and, and_false, false_and, not_true_eq_false, not_false_eq_true, or_self, ← Int32.not_le, shiT]; done) | (rw [tellT_eq (by omega) hF hP (by assumption) (by assumption) (by assumption)]; simp only [q1, Bool.false_eq_true, Bool.true_eq_false, reduceCtorEq, if_true, if_false, or_false, false_or, or_true, true_or, and_true, true_and, and_false, false_and, not_true_eq_false, not_false_eq_true, or_self, ← Int32.not_le, shiT]; done) | (rw [tellT_eq (by omega) hF hP (by assumption) (by assumption) (by assumption)]; simp only [q1, Bool.false_eq_true, Bool.true_eq_false, reduceCtorEq, if_true, if_false, or_false, false_or, or_true, true_or, and_true, true_and, and_false, false_and, not_true_eq_false, not_false_eq_true, or_self, ← Int32.not_le, shiT]; rfl) | (rw [tellT_eq (by omega) hF hP (by assumption) (by assumption) (by assumption)]; rfl)) hW⟩
  · obtain ⟨K, hK, rfl⟩ := oZ hI q1
    refine aw_ilo 2 (pcn := 9) rfl dX6_tell_8 rfl rfl ?_
    refine aw_Si (pcn := 12) (c_isParty _) mf_X6_isParty mv_X6_isParty ml_X6_262 rfl (by decide) (by decide) (by decide) (by exact Nat.le_of_ble_eq_true rfl) rfl dX6_tell_9 rfl (fun r h2 hq => ?_)
    obtain ⟨rfl, hq⟩ := hq
    obtain rfl := hq.symm
    refine aw_if_eqB (t := 22) (pcn := 15) dX6_tell_12 rfl (by decide) (fun q2 => ?_) (fun q2 => ?_)
    · refine aw_iconst (v := -1) (pcn := 23) dX6_tell_22 rfl (by decide) ?_
      exact aw_iret dX6_tell_23 rfl ⟨_, rfl, ret3 (by first | (simp only [tellT, q1, q2, Bool.false_eq_true, Bool.true_eq_false, reduceCtorEq, if_true, if_false, or_false, false_or, or_true, true_or, and_true, true_and, and_false, false_and, not_true_eq_false, not_false_eq_true, or_self, ← Int32.not_le, shiT]; done) | (rw [tellT_eq (by omega) hF hP (by assumption) (by assumption) (by assumption)]; simp only [q1, q2, Bool.false_eq_true, Bool.true_eq_false, reduceCtorEq, if_true, if_false, or_false, false_or, or_true, true_or, and_true, true_and, and_false, false_and, not_true_eq_false, not_false_eq_true, or_self, ← Int32.not_le, shiT]; done) | (rw [tellT_eq (by omega) hF hP (by assumption) (by assumption) (by assumption)]; simp only [q1, q2, Bool.false_eq_true, Bool.true_eq_false, reduceCtorEq, if_true, if_false, or_false, false_or, or_true, true_or, and_true, true_and, and_false, false_and, not_true_eq_false, not_false_eq_true, or_self, ← Int32.not_le, shiT]; rfl) | (rw [tellT_eq (by omega) hF hP (by assumption) (by assumption) (by assumption)]; rfl)) hW⟩
    · obtain ⟨F, hF, rfl⟩ := isPT_nI q2
      refine aw_ilo 3 (pcn := 16) rfl dX6_tell_15 rfl rfl ?_
      refine aw_Si (pcn := 19) (c_isParty _) mf_X6_isParty mv_X6_isParty ml_X6_262 rfl (by decide) (by decide) (by decide) (by exact Nat.le_of_ble_eq_true rfl) rfl dX6_tell_16 rfl (fun r h2 hq => ?_)
      obtain ⟨rfl, hq⟩ := hq
      obtain rfl := hq.symm
      refine aw_if_neB (t := 24) (pcn := 22) dX6_tell_19 rfl (by decide) (fun q3 => ?_) (fun q3 => ?_)
      · obtain ⟨P, hP, rfl⟩ := isPT_nI q3
        refine aw_alo 0 (pcn := 25) rfl dX6_tell_24 rfl rfl (rf_some _) ?_
        refine aw_ilo 1 (pcn := 26) rfl dX6_tell_25 rfl rfl ?_
        refine aw_ilo 2 (pcn := 27) rfl dX6_tell_26 rfl rfl ?_
        refine aw_Vi (pcn := 30) (c_isKnownBy hW hI (K := K) (P := F) hK hF) mf_X6_isKnownBy mv_X6_isKnownBy hW.sc rfl ml_X6_271 rfl (by decide) (by decide) (by decide) (by exact Nat.le_of_ble_eq_true rfl) rfl dX6_tell_27 rfl (fun r h2 hq => ?_)
        obtain ⟨rfl, hq⟩ := hq
        obtain rfl := hq.symm
        refine aw_if_neB (t := 36) (pcn := 33) dX6_tell_30 rfl (by decide) (fun q4 => ?_) (fun q4 => ?_)
        · refine aw_alo 0 (pcn := 37) rfl dX6_tell_36 rfl rfl (rf_some _) ?_
          refine aw_ilo 1 (pcn := 38) rfl dX6_tell_37 rfl rfl ?_
          refine aw_ilo 3 (pcn := 39) rfl dX6_tell_38 rfl rfl ?_
          refine aw_Vi (pcn := 42) (c_isKnownBy hW hI (K := K) (P := P) hK hP) mf_X6_isKnownBy mv_X6_isKnownBy hW.sc rfl ml_X6_271 rfl (by decide) (by decide) (by decide) (by exact Nat.le_of_ble_eq_true rfl) rfl dX6_tell_39 rfl (fun r h2 hq => ?_)
          obtain ⟨rfl, hq⟩ := hq
          obtain rfl := hq.symm
          refine aw_if_eqB (t := 47) (pcn := 45) dX6_tell_42 rfl (by decide) (fun q5 => ?_) (fun q5 => ?_)
          · refine aw_alo 0 (pcn := 48) rfl dX6_tell_47 rfl rfl (rf_some _) ?_
            refine aw_getf (pcn := 51) fl_X6_28 dX6_tell_48 rfl hW.sc rfl ?_
            refine aw_ilo 1 (pcn := 52) rfl dX6_tell_51 rfl rfl ?_
            refine aw_dup2 (pcn := 53) dX6_tell_52 rfl rfl rfl ?_
            refine aw_ialdN (pcn := 54) (by decide) dX6_tell_53 rfl hW.kno (show _ < 16 by omega) ?_
            refine aw_iconst (v := nI 1) (pcn := 55) dX6_tell_54 rfl (by decide) ?_
            refine aw_ilo 3 (pcn := 56) rfl dX6_tell_55 rfl rfl ?_
            refine aw_ishl (pcn := 57) dX6_tell_56 rfl ?_
            refine aw_ior (pcn := 58) dX6_tell_57 rfl ?_
            refine aw_iastK (pcn := 59) hW dX6_tell_58 rfl (by omega) (fun h hW hk => ?_)
            refine aw_iconst (v := nI 1) (pcn := 60) dX6_tell_59 rfl (by decide) ?_
            exact aw_iret dX6_tell_60 rfl ⟨_, rfl, ret3 (by rw [tellT_eq (by omega) hF hP (by assumption) (by assumption) (by assumption), if_neg (by rw [q4]; decide), if_neg (by rw [had_or (hI.k4 (by omega)) hP, q5]; decide)]; rfl) hW⟩
          · refine aw_iconst (v := nI 0) (pcn := 46) dX6_tell_45 rfl (by decide) ?_
            exact aw_iret dX6_tell_46 rfl ⟨_, rfl, ret3 (T' := T) (by rw [tellT_eq (by omega) hF hP (by assumption) (by assumption) (by assumption), if_neg (by rw [q4]; decide), if_pos (by rw [had_or (hI.k4 (by omega)) hP]; exact q5), show T 4 K ||| shiT P = T 4 K by rw [had_or (hI.k4 (by omega)) hP]; exact q5, up_same]) hW⟩
        · refine aw_bipush (v := -4) (pcn := 35) dX6_tell_33 rfl (by decide) ?_
          exact aw_iret dX6_tell_35 rfl ⟨_, rfl, ret3 (by first | (simp only [tellT, q1, q2, q3, q4, Bool.false_eq_true, Bool.true_eq_false, reduceCtorEq, if_true, if_false, or_false, false_or, or_true, true_or, and_true, true_and, and_false, false_and, not_true_eq_false, not_false_eq_true, or_self, ← Int32.not_le, shiT]; done) | (rw [tellT_eq (by omega) hF hP (by assumption) (by assumption) (by assumption)]; simp only [q1, q2, q3, q4, Bool.false_eq_true, Bool.true_eq_false, reduceCtorEq, if_true, if_false, or_false, false_or, or_true, true_or, and_true, true_and, and_false, false_and, not_true_eq_false, not_false_eq_true, or_self, ← Int32.not_le, shiT]; done) | (rw [tellT_eq (by omega) hF hP (by assumption) (by assumption) (by assumption)]; simp only [q1, q2, q3, q4, Bool.false_eq_true, Bool.true_eq_false, reduceCtorEq, if_true, if_false, or_false, false_or, or_true, true_or, and_true, true_and, and_false, false_and, not_true_eq_false, not_false_eq_true, or_self, ← Int32.not_le, shiT]; rfl) | (rw [tellT_eq (by omega) hF hP (by assumption) (by assumption) (by assumption)]; rfl)) hW⟩
      · refine aw_iconst (v := -1) (pcn := 23) dX6_tell_22 rfl (by decide) ?_
        exact aw_iret dX6_tell_23 rfl ⟨_, rfl, ret3 (by first | (simp only [tellT, q1, q2, q3, Bool.false_eq_true, Bool.true_eq_false, reduceCtorEq, if_true, if_false, or_false, false_or, or_true, true_or, and_true, true_and, and_false, false_and, not_true_eq_false, not_false_eq_true, or_self, ← Int32.not_le, shiT]; done) | (rw [tellT_eq (by omega) hF hP (by assumption) (by assumption) (by assumption)]; simp only [q1, q2, q3, Bool.false_eq_true, Bool.true_eq_false, reduceCtorEq, if_true, if_false, or_false, false_or, or_true, true_or, and_true, true_and, and_false, false_and, not_true_eq_false, not_false_eq_true, or_self, ← Int32.not_le, shiT]; done) | (rw [tellT_eq (by omega) hF hP (by assumption) (by assumption) (by assumption)]; simp only [q1, q2, q3, Bool.false_eq_true, Bool.true_eq_false, reduceCtorEq, if_true, if_false, or_false, false_or, or_true, true_or, and_true, true_and, and_false, false_and, not_true_eq_false, not_false_eq_true, or_self, ← Int32.not_le, shiT]; rfl) | (rw [tellT_eq (by omega) hF hP (by assumption) (by assumption) (by assumption)]; rfl)) hW⟩

set_option maxHeartbeats 1600000 in
set_option maxRecDepth 20000 in
theorem c_a_claim {X : XG} {l : Launch} {Γ : NM} {ow : Nat → Nat × Nat} {h : Hp} {T Tr : TB} {nh : Nat} (hW : WD Γ ow h T Tr nh) {i C n Z hN : Nat} (hI : Iv i T C n Z hN) (k p q : Int32) : AM X l yX6_claim cX6_claim 6 (some .int) 4 0 0 [.ref (Γ 0 0), .int k, .int p, .int q] h (qi fun r h' => r = (claimT T k p q).1 ∧ WD Γ ow h' (claimT T k p q).2 Tr nh) := by
  refine AM.of (by decide +kernel) (by simp [Value.category]) (Nat.le_of_ble_eq_true rfl) ?_
  show AW X l cX6_claim RX6 "claim" (some .int) 6 4 none _ 0 0 0 [some (.ref (Γ 0 0)), some (.int k), some (.int p), some (.int q), none, none] [] h
  have h64 := hI.n64
  have h8 := hI.C8
  have h16 := hI.Z16
  have h4 := hI.h4
  refine aw_alo 0 (pcn := 1) rfl dX6_claim_0 rfl rfl (rf_some _) ?_
  refine aw_ilo 1 (pcn := 2) rfl dX6_claim_1 rfl rfl ?_
  refine aw_Vr (pcn := 5) (c_channelAt hW hI _) mf_X6_channelAt mv_X6_channelAt hW.sc rfl ml_X6_93 rfl (by decide) (by decide) (by decide) (by exact Nat.le_of_ble_eq_true rfl) rfl dX6_claim_2 rfl (fun r h2 hq => ?_)
  obtain ⟨hq, hh⟩ := hq
  obtain rfl := hh.symm
  rcases hq with ⟨e0, rfl⟩ | ⟨c, hcC, rfl, hct, rfl⟩
  · refine aw_astore (pcn := 7) dX6_claim_5 rfl (by decide) (rf_none) ?_
    dsimp only [List.set_cons_zero, List.set_cons_succ]
    refine aw_aload (pcn := 9) dX6_claim_7 rfl rfl (rf_none) ?_
    refine aw_ifnull (t := 26) (pcn := 12) dX6_claim_9 rfl (by decide) (rf_none) (fun q1 => ?_) (fun a2 q1 => by cases q1)
    clear q1
    refine aw_iconst (v := -1) (pcn := 27) dX6_claim_26 rfl (by decide) ?_
    exact aw_iret dX6_claim_27 rfl ⟨_, rfl, ret3 (by first | (simp only [claimT, e0, Bool.false_eq_true, Bool.true_eq_false, reduceCtorEq, if_true, if_false, or_false, false_or, or_true, true_or, and_true, true_and, and_false, false_and, not_true_eq_false, not_false_eq_true, or_self, ← Int32.not_le, shiT]; done) | (rw [claimT_eq hc8 hK hF hct (by assumption) (by assumption)]; simp only [e0, Bool.false_eq_true, Bool.true_eq_false, reduceCtorEq, if_true, if_false, or_false, false_or, or_true, true_or, and_true, true_and, and_false, false_and, not_true_eq_false, not_false_eq_true, or_self, ← Int32.not_le, shiT]; done) | (rw [claimT_eq hc8 hK hF hct (by assumption) (by assumption)]; simp only [e0, Bool.false_eq_true, Bool.true_eq_false, reduceCtorEq, if_true, if_false, or_false, false_or, or_true, true_or, and_true, true_and, and_false, false_and, not_true_eq_false, not_false_eq_true, or_self, ← Int32.not_le, shiT]; rfl) | (rw [claimT_eq hc8 hK hF hct (by assumption) (by assumption)]; rfl)) hW⟩
  · have hc8 : c < 8 := by omega
    have vc := hI.vc hcC
    refine aw_astore (pcn := 7) dX6_claim_5 rfl (by decide) (rf_some _) ?_
    dsimp only [List.set_cons_zero, List.set_cons_succ]
    refine aw_aload (pcn := 9) dX6_claim_7 rfl rfl (rf_some _) ?_
    refine aw_ifnull (t := 26) (pcn := 12) dX6_claim_9 rfl (by decide) (rf_some _) (fun q3 => by cases q3) (fun a4 q3 => ?_)
    clear q3 a4
    refine aw_ilo 2 (pcn := 13) rfl dX6_claim_12 rfl rfl ?_
    refine aw_Si (pcn := 16) (c_isPlace _) mf_X6_isPlace mv_X6_isPlace ml_X6_277 rfl (by decide) (by decide) (by decide) (by exact Nat.le_of_ble_eq_true rfl) rfl dX6_claim_13 rfl (fun r h2 hq => ?_)
    obtain ⟨rfl, hq⟩ := hq
    obtain rfl := hq.symm
    refine aw_if_eqB (t := 26) (pcn := 19) dX6_claim_16 rfl (by decide) (fun q5 => ?_) (fun q5 => ?_)
    · refine aw_iconst (v := -1) (pcn := 27) dX6_claim_26 rfl (by decide) ?_
      exact aw_iret dX6_claim_27 rfl ⟨_, rfl, ret3 (by first | (simp only [claimT, hct, q5, Bool.false_eq_true, Bool.true_eq_false, reduceCtorEq, if_true, if_false, or_false, false_or, or_true, true_or, and_true, true_and, and_false, false_and, not_true_eq_false, not_false_eq_true, or_self, ← Int32.not_le, shiT]; done) | (rw [claimT_eq hc8 hK hF hct (by assumption) (by assumption)]; simp only [hct, q5, Bool.false_eq_true, Bool.true_eq_false, reduceCtorEq, if_true, if_false, or_false, false_or, or_true, true_or, and_true, true_and, and_false, false_and, not_true_eq_false, not_false_eq_true, or_self, ← Int32.not_le, shiT]; done) | (rw [claimT_eq hc8 hK hF hct (by assumption) (by assumption)]; simp only [hct, q5, Bool.false_eq_true, Bool.true_eq_false, reduceCtorEq, if_true, if_false, or_false, false_or, or_true, true_or, and_true, true_and, and_false, false_and, not_true_eq_false, not_false_eq_true, or_self, ← Int32.not_le, shiT]; rfl) | (rw [claimT_eq hc8 hK hF hct (by assumption) (by assumption)]; rfl)) hW⟩
    · obtain ⟨K, hK', rfl⟩ := inR_nI (by decide) q5
      have hK : K < 3 := by omega
      refine aw_ilo 3 (pcn := 20) rfl dX6_claim_19 rfl rfl ?_
      refine aw_Si (pcn := 23) (c_isParty _) mf_X6_isParty mv_X6_isParty ml_X6_262 rfl (by decide) (by decide) (by decide) (by exact Nat.le_of_ble_eq_true rfl) rfl dX6_claim_20 rfl (fun r h2 hq => ?_)
      obtain ⟨rfl, hq⟩ := hq
      obtain rfl := hq.symm
      refine aw_if_neB (t := 28) (pcn := 26) dX6_claim_23 rfl (by decide) (fun q6 => ?_) (fun q6 => ?_)
      · obtain ⟨F, hF, rfl⟩ := isPT_nI q6
        refine aw_aload (pcn := 30) dX6_claim_28 rfl rfl (rf_some _) ?_
        obtain ⟨g, hc, hg⟩ := hW.ch (c := c) vc
        refine aw_getf (pcn := 33) fl_X6_97 dX6_claim_30 rfl hc rfl ?_
        refine aw_iconst (v := nI 3) (pcn := 34) dX6_claim_33 rfl (by decide) ?_
        refine aw_icmp_eq (t := 40) (pcn := 37) dX6_claim_34 rfl (by decide) (fun q7 => ?_) (fun q7 => ?_)
        · refine aw_alo 0 (pcn := 41) rfl dX6_claim_40 rfl rfl (rf_some _) ?_
          refine aw_aload (pcn := 43) dX6_claim_41 rfl rfl (rf_some _) ?_
          refine aw_ilo 2 (pcn := 44) rfl dX6_claim_43 rfl rfl ?_
          refine aw_ilo 3 (pcn := 45) rfl dX6_claim_44 rfl rfl ?_
          refine aw_Vi (pcn := 48) (c_claimHeld hW hI hcC hK hF) mf_X6_claimHeld mv_X6_claimHeld hW.sc rfl ml_X6_280 rfl (by decide) (by decide) (by decide) (by exact Nat.le_of_ble_eq_true rfl) rfl dX6_claim_45 rfl (fun r h hq => ?_)
          obtain ⟨rfl, hW⟩ := hq
          refine aw_istore (pcn := 50) dX6_claim_48 rfl (by decide) ?_
          dsimp only [List.set_cons_zero, List.set_cons_succ]
          refine aw_iload (pcn := 52) dX6_claim_50 rfl rfl ?_
          refine aw_iconst (v := -1) (pcn := 53) dX6_claim_52 rfl (by decide) ?_
          have l0 := ((hI.st (hI.byn hcC)).2.2.1 K hK).1
          cases hcn : canT T c (ix (T 10 c)) K F
          · rw [if_neg (by decide)]
            refine aw_icmp_ne (t := 61) (pcn := 56) dX6_claim_53 rfl (by decide) (fun q => absurd rfl q) (fun _ => ?_)
            refine aw_bipush (v := -4) (pcn := 58) dX6_claim_56 rfl (by decide) ?_
            refine aw_goto (t := 63) dX6_claim_58 (by decide) ?_
            exact aw_iret dX6_claim_63 rfl ⟨_, rfl, ret3 (by rw [claimT_eq hc8 hK hF hct (by assumption) (by assumption), if_neg (by rw [q7]; decide)]; first | (rw [if_neg (by rw [hcn]; decide)]; unfold cwT; rw [if_neg (by rw [hcn]; decide)]; done) | (rw [if_pos hcn]; unfold cwT; rw [if_pos hcn]; done)) hW⟩
          · rw [if_pos rfl]
            refine aw_icmp_ne (t := 61) (pcn := 56) dX6_claim_53 rfl (by decide) (fun _ => ?_) (fun q => absurd (show 0 ≤ lkT T (ix (T 10 c)) K 0 from l0) (by rw [q]; decide))
            refine aw_iload (pcn := 63) dX6_claim_61 rfl rfl ?_
            exact aw_iret dX6_claim_63 rfl ⟨_, rfl, ret3 (by rw [claimT_eq hc8 hK hF hct (by assumption) (by assumption), if_neg (by rw [q7]; decide)]; first | (rw [if_neg (by rw [hcn]; decide)]; unfold cwT; rw [if_neg (by rw [hcn]; decide)]; done) | (rw [if_pos hcn]; unfold cwT; rw [if_pos hcn]; done)) hW⟩
        · refine aw_bipush (v := -2) (pcn := 39) dX6_claim_37 rfl (by decide) ?_
          exact aw_iret dX6_claim_39 rfl ⟨_, rfl, ret3 (by first | (simp only [claimT, hct, q5, q6, q7, Bool.false_eq_true, Bool.true_eq_false, reduceCtorEq, if_true, if_false, or_false, false_or, or_true, true_or, and_true, true_and, and_false, false_and, not_true_eq_false, not_false_eq_true, or_self, ← Int32.not_le, shiT]; done) | (rw [claimT_eq hc8 hK hF hct (by assumption) (by assumption)]; simp only [hct, q5, q6, q7, Bool.false_eq_true, Bool.true_eq_false, reduceCtorEq, if_true, if_false, or_false, false_or, or_true, true_or, and_true, true_and, and_false, false_and, not_true_eq_false, not_false_eq_true, or_self, ← Int32.not_le, shiT]; done) | (rw [claimT_eq hc8 hK hF hct (by assumption) (by assumption)]; simp only [hct, q5, q6, q7, Bool.false_eq_true, Bool.true_eq_false, reduceCtorEq, if_true, if_false, or_false, false_or, or_true, true_or, and_true, true_and, and_false, false_and, not_true_eq_false, not_false_eq_true, or_self, ← Int32.not_le, shiT]; rfl) | (rw [claimT_eq hc8 hK hF hct (by assumption) (by assumption)]; rfl)) hW⟩
      · refine aw_iconst (v := -1) (pcn := 27) dX6_claim_26 rfl (by decide) ?_
        exact aw_iret dX6_claim_27 rfl ⟨_, rfl, ret3 (by first | (simp only [claimT, hct, q5, q6, Bool.false_eq_true, Bool.true_eq_false, reduceCtorEq, if_true, if_false, or_false, false_or, or_true, true_or, and_true, true_and, and_false, false_and, not_true_eq_false, not_false_eq_true, or_self, ← Int32.not_le, shiT]; done) | (rw [claimT_eq hc8 hK hF hct (by assumption) (by assumption)]; simp only [hct, q5, q6, Bool.false_eq_true, Bool.true_eq_false, reduceCtorEq, if_true, if_false, or_false, false_or, or_true, true_or, and_true, true_and, and_false, false_and, not_true_eq_false, not_false_eq_true, or_self, ← Int32.not_le, shiT]; done) | (rw [claimT_eq hc8 hK hF hct (by assumption) (by assumption)]; simp only [hct, q5, q6, Bool.false_eq_true, Bool.true_eq_false, reduceCtorEq, if_true, if_false, or_false, false_or, or_true, true_or, and_true, true_and, and_false, false_and, not_true_eq_false, not_false_eq_true, or_self, ← Int32.not_le, shiT]; rfl) | (rw [claimT_eq hc8 hK hF hct (by assumption) (by assumption)]; rfl)) hW⟩

theorem stp_14 {T : TB} {c : Nat} {t : Int32} : stpT T c t 14 c = T 14 c - t := by
  unfold stpT
  split
  · rename_i h
    unfold winT
    rw [up_j _ _ _ _ (by decide), up_s, nI_0, h]
  · rw [up_j _ _ _ _ (by decide), up_j _ _ _ _ (by decide), up_j _ _ _ _ (by decide), up_j _ _ _ _ (by decide), up_s]
set_option maxHeartbeats 1600000 in
set_option maxRecDepth 20000 in
theorem c_a_step {X : XG} {l : Launch} {Γ : NM} {ow : Nat → Nat × Nat} {h : Hp} {T Tr : TB} {nh : Nat} (hW : WD Γ ow h T Tr nh) {i C n Z hN : Nat} (hI : Iv i T C n Z hN) (k p t : Int32) : AM X l yX6_step cX6_step 6 (some .int) 4 1 4 [.ref (Γ 0 0), .int k, .int p, .int t] h (qi fun r h' => r = (stepT T k p t).1 ∧ WD Γ ow h' (stepT T k p t).2 Tr nh) := by
  refine AM.of (by decide +kernel) (by simp [Value.category]) (Nat.le_of_ble_eq_true rfl) ?_
  show AW X l cX6_step RX6 "step" (some .int) 6 4 none _ 1 4 0 [some (.ref (Γ 0 0)), some (.int k), some (.int p), some (.int t), none, none] [] h
  have h64 := hI.n64
  have h8 := hI.C8
  have h16 := hI.Z16
  have h4 := hI.h4
  refine aw_alo 0 (pcn := 1) rfl dX6_step_0 rfl rfl (rf_some _) ?_
  refine aw_ilo 1 (pcn := 2) rfl dX6_step_1 rfl rfl ?_
  refine aw_Vr (pcn := 5) (c_channelAt hW hI _) mf_X6_channelAt mv_X6_channelAt hW.sc rfl ml_X6_93 rfl (by decide) (by decide) (by decide) (by exact Nat.le_of_ble_eq_true rfl) rfl dX6_step_2 rfl (fun r h2 hq => ?_)
  obtain ⟨hq, hh⟩ := hq
  obtain rfl := hh.symm
  rcases hq with ⟨e0, rfl⟩ | ⟨c, hcC, rfl, hct, rfl⟩
  · refine aw_astore (pcn := 7) dX6_step_5 rfl (by decide) (rf_none) ?_
    dsimp only [List.set_cons_zero, List.set_cons_succ]
    refine aw_aload (pcn := 9) dX6_step_7 rfl rfl (rf_none) ?_
    refine aw_ifnull (t := 19) (pcn := 12) dX6_step_9 rfl (by decide) (rf_none) (fun q1 => ?_) (fun a2 q1 => by cases q1)
    clear q1
    refine aw_iconst (v := -1) (pcn := 20) dX6_step_19 rfl (by decide) ?_
    exact aw_iret dX6_step_20 rfl ⟨_, rfl, ret3 (by first | (simp only [stepT, e0, Bool.false_eq_true, Bool.true_eq_false, reduceCtorEq, if_true, if_false, or_false, false_or, or_true, true_or, and_true, true_and, and_false, false_and, not_true_eq_false, not_false_eq_true, or_self, ← Int32.not_le, shiT]; done) | (rw [stepT_eq hc8 hct (by assumption)]; simp only [e0, ne_eq, Bool.false_eq_true, Bool.true_eq_false, reduceCtorEq, if_true, if_false, or_false, false_or, or_true, true_or, and_true, true_and, and_false, false_and, not_true_eq_false, not_false_eq_true, or_self, ← Int32.not_le, shiT]; done)) hW⟩
  · have hc8 : c < 8 := by omega
    have vc := hI.vc hcC
    refine aw_astore (pcn := 7) dX6_step_5 rfl (by decide) (rf_some _) ?_
    dsimp only [List.set_cons_zero, List.set_cons_succ]
    refine aw_aload (pcn := 9) dX6_step_7 rfl rfl (rf_some _) ?_
    refine aw_ifnull (t := 19) (pcn := 12) dX6_step_9 rfl (by decide) (rf_some _) (fun q3 => by cases q3) (fun a4 q3 => ?_)
    clear q3 a4
    refine aw_ilo 2 (pcn := 13) rfl dX6_step_12 rfl rfl ?_
    refine aw_Si (pcn := 16) (c_isParty _) mf_X6_isParty mv_X6_isParty ml_X6_262 rfl (by decide) (by decide) (by decide) (by exact Nat.le_of_ble_eq_true rfl) rfl dX6_step_13 rfl (fun r h2 hq => ?_)
    obtain ⟨rfl, hq⟩ := hq
    obtain rfl := hq.symm
    refine aw_if_neB (t := 21) (pcn := 19) dX6_step_16 rfl (by decide) (fun q5 => ?_) (fun q5 => ?_)
    · obtain ⟨F, hF, rfl⟩ := isPT_nI q5
      refine aw_aload (pcn := 23) dX6_step_21 rfl rfl (rf_some _) ?_
      obtain ⟨g, hc, hg⟩ := hW.ch (c := c) vc
      refine aw_getf (pcn := 26) fl_X6_250 dX6_step_23 rfl hc rfl ?_
      refine aw_astore (pcn := 28) dX6_step_26 rfl (by decide) (rfl) ?_
      dsimp only [List.set_cons_zero, List.set_cons_succ]
      refine aw_aload (pcn := 30) dX6_step_28 rfl rfl (rfl) ?_
      refine aw_ifnonnull (t := 36) (pcn := 33) dX6_step_30 rfl (by decide) rfl (fun a7 q6 => ?_) (fun q6 => ?_)
      · have hz := hg.s q6
        subst q6
        have hgm := hz.2
        have hgz := hz.1
        refine aw_ilo 3 (pcn := 37) rfl dX6_step_36 rfl rfl ?_
        refine aw_iconst (v := nI 1) (pcn := 38) dX6_step_37 rfl (by decide) ?_
        refine aw_iconst (v := nI 3) (pcn := 39) dX6_step_38 rfl (by decide) ?_
        refine aw_Si (pcn := 42) (c_isWithin _ _ _) mf_X6_isWithin mv_X6_isWithin ml_X6_42 rfl (by decide) (by decide) (by decide) (by exact Nat.le_of_ble_eq_true rfl) rfl dX6_step_39 rfl (fun r h2 hq => ?_)
        obtain ⟨rfl, hq⟩ := hq
        obtain rfl := hq.symm
        refine aw_if_neB (t := 48) (pcn := 45) dX6_step_42 rfl (by decide) (fun q8 => ?_) (fun q8 => ?_)
        · refine aw_aload (pcn := 50) dX6_step_48 rfl rfl (rf_some _) ?_
          refine aw_getf (pcn := 53) fl_X6_189 dX6_step_50 rfl hgm rfl ?_
          refine aw_ilo 2 (pcn := 54) rfl dX6_step_53 rfl rfl ?_
          refine aw_icmp_ne (t := 66) (pcn := 57) dX6_step_54 rfl (by decide) (fun q9 => ?_) (fun q9 => ?_)
          · refine aw_bipush (v := -4) (pcn := 68) dX6_step_66 rfl (by decide) ?_
            exact aw_iret dX6_step_68 rfl ⟨_, rfl, ret3 (by first | (simp only [stepT, hct, q5, hgz, q8, q9, Bool.false_eq_true, Bool.true_eq_false, reduceCtorEq, if_true, if_false, or_false, false_or, or_true, true_or, and_true, true_and, and_false, false_and, not_true_eq_false, not_false_eq_true, or_self, ← Int32.not_le, shiT]; done) | (rw [stepT_eq hc8 hct (by assumption)]; simp only [hct, q5, hgz, q8, q9, ne_eq, Bool.false_eq_true, Bool.true_eq_false, reduceCtorEq, if_true, if_false, or_false, false_or, or_true, true_or, and_true, true_and, and_false, false_and, not_true_eq_false, not_false_eq_true, or_self, ← Int32.not_le, shiT]; done)) hW⟩
          · refine aw_aload (pcn := 59) dX6_step_57 rfl rfl (rf_some _) ?_
            refine aw_getf (pcn := 62) fl_X6_182 dX6_step_59 rfl hgm rfl ?_
            refine aw_ilo 3 (pcn := 63) rfl dX6_step_62 rfl rfl ?_
            refine aw_icmp_ge (t := 69) (pcn := 66) dX6_step_63 rfl (by decide) (fun q10 => ?_) (fun q10 => ?_)
            · obtain ⟨t0, ht0, ht3, rfl⟩ := inRp (v := t) (b := 3) (by decide) (by assumption)
              obtain ⟨_, _, kk, hk0, hk20, hhp⟩ := (hI.he hcC).2.2.2.1.2 hz.1
              have htk : t0 ≤ kk := by
                have e := q10
                rw [hhp, nI_leI (by omega) (by omega)] at e
                exact e
              refine aw_alo 0 (pcn := 70) rfl dX6_step_69 rfl rfl (rf_some _) ?_
              refine aw_aload (pcn := 72) dX6_step_70 rfl rfl (rf_some _) ?_
              refine aw_aload (pcn := 74) dX6_step_72 rfl rfl (rf_some _) ?_
              refine aw_ilo 3 (pcn := 75) rfl dX6_step_74 rfl rfl ?_
              refine aw_Vv (pcn := 78) (c_moveHeld hW (c := c) vc (t := t0) hz.1 hgm hF q9 hhp hk20 htk) mf_X6_moveHeld mv_X6_moveHeld hW.sc rfl ml_X6_284 rfl (by decide) (by decide) (by decide) (by exact Nat.le_of_ble_eq_true rfl) rfl dX6_step_75 rfl (fun h hW => ?_)
              obtain ⟨hW, hk⟩ := hW
              have hgm := hk.gm hgm
              refine aw_aload (pcn := 80) dX6_step_78 rfl rfl (rf_some _) ?_
              refine aw_getf (pcn := 83) fl_X6_182 dX6_step_80 rfl hgm rfl ?_
              refine aw_ilo 3 (pcn := 84) rfl dX6_step_83 rfl rfl ?_
              refine aw_isub (pcn := 85) dX6_step_84 rfl ?_
              exact aw_iret dX6_step_85 rfl ⟨_, rfl, ret3 (T' := stpT T c (nI t0)) (by rw [stepT_eq hc8 hct (by assumption)]; simp only [hct, q5, hgz, q8, q9, q10, ne_eq, Bool.false_eq_true, Bool.true_eq_false, reduceCtorEq, if_true, if_false, or_false, false_or, or_true, true_or, and_true, true_and, and_false, false_and, not_true_eq_false, not_false_eq_true, or_self, ← Int32.not_le, shiT]; rw [stp_14]) hW⟩
            · refine aw_bipush (v := -4) (pcn := 68) dX6_step_66 rfl (by decide) ?_
              exact aw_iret dX6_step_68 rfl ⟨_, rfl, ret3 (by first | (simp only [stepT, hct, q5, hgz, q8, q9, q10, Bool.false_eq_true, Bool.true_eq_false, reduceCtorEq, if_true, if_false, or_false, false_or, or_true, true_or, and_true, true_and, and_false, false_and, not_true_eq_false, not_false_eq_true, or_self, ← Int32.not_le, shiT]; done) | (rw [stepT_eq hc8 hct (by assumption)]; simp only [hct, q5, hgz, q8, q9, q10, ne_eq, Bool.false_eq_true, Bool.true_eq_false, reduceCtorEq, if_true, if_false, or_false, false_or, or_true, true_or, and_true, true_and, and_false, false_and, not_true_eq_false, not_false_eq_true, or_self, ← Int32.not_le, shiT]; done)) hW⟩
        · refine aw_bipush (v := -3) (pcn := 47) dX6_step_45 rfl (by decide) ?_
          exact aw_iret dX6_step_47 rfl ⟨_, rfl, ret3 (by first | (simp only [stepT, hct, q5, hgz, q8, Bool.false_eq_true, Bool.true_eq_false, reduceCtorEq, if_true, if_false, or_false, false_or, or_true, true_or, and_true, true_and, and_false, false_and, not_true_eq_false, not_false_eq_true, or_self, ← Int32.not_le, shiT]; done) | (rw [stepT_eq hc8 hct (by assumption)]; simp only [hct, q5, hgz, q8, ne_eq, Bool.false_eq_true, Bool.true_eq_false, reduceCtorEq, if_true, if_false, or_false, false_or, or_true, true_or, and_true, true_and, and_false, false_and, not_true_eq_false, not_false_eq_true, or_self, ← Int32.not_le, shiT]; done)) hW⟩
      · have hgz := hg.n q6
        refine aw_bipush (v := -2) (pcn := 35) dX6_step_33 rfl (by decide) ?_
        exact aw_iret dX6_step_35 rfl ⟨_, rfl, ret3 (by first | (simp only [stepT, hct, q5, hgz, Bool.false_eq_true, Bool.true_eq_false, reduceCtorEq, if_true, if_false, or_false, false_or, or_true, true_or, and_true, true_and, and_false, false_and, not_true_eq_false, not_false_eq_true, or_self, ← Int32.not_le, shiT]; done) | (rw [stepT_eq hc8 hct (by assumption)]; simp only [hct, q5, hgz, ne_eq, Bool.false_eq_true, Bool.true_eq_false, reduceCtorEq, if_true, if_false, or_false, false_or, or_true, true_or, and_true, true_and, and_false, false_and, not_true_eq_false, not_false_eq_true, or_self, ← Int32.not_le, shiT]; done)) hW⟩
    · refine aw_iconst (v := -1) (pcn := 20) dX6_step_19 rfl (by decide) ?_
      exact aw_iret dX6_step_20 rfl ⟨_, rfl, ret3 (by first | (simp only [stepT, hct, q5, Bool.false_eq_true, Bool.true_eq_false, reduceCtorEq, if_true, if_false, or_false, false_or, or_true, true_or, and_true, true_and, and_false, false_and, not_true_eq_false, not_false_eq_true, or_self, ← Int32.not_le, shiT]; done) | (rw [stepT_eq hc8 hct (by assumption)]; simp only [hct, q5, ne_eq, Bool.false_eq_true, Bool.true_eq_false, reduceCtorEq, if_true, if_false, or_false, false_or, or_true, true_or, and_true, true_and, and_false, false_and, not_true_eq_false, not_false_eq_true, or_self, ← Int32.not_le, shiT]; done)) hW⟩

set_option maxHeartbeats 1600000 in
set_option maxRecDepth 20000 in
theorem c_a_watch {X : XG} {l : Launch} {Γ : NM} {ow : Nat → Nat × Nat} {h : Hp} {T Tr : TB} {nh : Nat} (hW : WD Γ ow h T Tr nh) {i C n Z hN : Nat} (hI : Iv i T C n Z hN) (p on : Int32) (hon : on = nI 0 ∨ on = nI 1) : AM X l yX6_watch cX6_watch 4 (some .int) 1 0 0 [.ref (Γ 0 0), .int p, .int on] h (qi fun r h' => r = (watchT T p on).1 ∧ WD Γ ow h' (watchT T p on).2 Tr nh) := by
  refine AM.of (by decide +kernel) (by simp [Value.category]) (Nat.le_of_ble_eq_true rfl) ?_
  show AW X l cX6_watch RX6 "watch" (some .int) 4 1 none _ 0 0 0 [some (.ref (Γ 0 0)), some (.int p), some (.int on), none] [] h
  have h64 := hI.n64
  have h8 := hI.C8
  have h16 := hI.Z16
  have h4 := hI.h4
  refine aw_ilo 1 (pcn := 1) rfl dX6_watch_0 rfl rfl ?_
  refine aw_Si (pcn := 4) (c_isParty _) mf_X6_isParty mv_X6_isParty ml_X6_262 rfl (by decide) (by decide) (by decide) (by exact Nat.le_of_ble_eq_true rfl) rfl dX6_watch_1 rfl (fun r h2 hq => ?_)
  obtain ⟨rfl, hq⟩ := hq
  obtain rfl := hq.symm
  refine aw_if_neB (t := 9) (pcn := 7) dX6_watch_4 rfl (by decide) (fun q1 => ?_) (fun q1 => ?_)
  · obtain ⟨F, hF, rfl⟩ := isPT_nI q1
    refine aw_alo 0 (pcn := 10) rfl dX6_watch_9 rfl rfl (rf_some _) ?_
    refine aw_getf (pcn := 13) fl_X6_305 dX6_watch_10 rfl hW.sc rfl ?_
    refine aw_ilo 1 (pcn := 14) rfl dX6_watch_13 rfl rfl ?_
    refine aw_Si (pcn := 17) (c_isIn _ _) mf_X6_isIn mv_X6_isIn ml_X6_107 rfl (by decide) (by decide) (by decide) (by exact Nat.le_of_ble_eq_true rfl) rfl dX6_watch_14 rfl (fun r h2 hq => ?_)
    obtain ⟨rfl, hq⟩ := hq
    obtain rfl := hq.symm
    rw [inB_has hI.w1 hF]
    refine aw_if_eqB (t := 24) (pcn := 20) dX6_watch_17 rfl (by decide) (fun q2 => ?_) (fun q2 => ?_)
    · refine aw_iconst (v := nI 0) (pcn := 25) dX6_watch_24 rfl (by decide) ?_
      refine aw_ist 3 (pcn := 26) rfl dX6_watch_25 rfl (by decide) ?_
      dsimp only [List.set_cons_zero, List.set_cons_succ]
      refine aw_alo 0 (pcn := 27) rfl dX6_watch_26 rfl rfl (rf_some _) ?_
      rcases hon with rfl | rfl
      · refine aw_ilo 2 (pcn := 28) rfl dX6_watch_27 rfl rfl ?_
        refine aw_if_eq (t := 42) (pcn := 31) dX6_watch_28 rfl (by decide) (fun q3 => ?_) (fun q3 => absurd (by decide) q3)
        refine aw_alo 0 (pcn := 43) rfl dX6_watch_42 rfl rfl (rf_some _) ?_
        refine aw_getf (pcn := 46) fl_X6_305 dX6_watch_43 rfl hW.sc rfl ?_
        refine aw_iconst (v := nI 1) (pcn := 47) dX6_watch_46 rfl (by decide) ?_
        refine aw_ilo 1 (pcn := 48) rfl dX6_watch_47 rfl rfl ?_
        refine aw_ishl (pcn := 49) dX6_watch_48 rfl ?_
        refine aw_iconst (v := -1) (pcn := 50) dX6_watch_49 rfl (by decide) ?_
        refine aw_ixor (pcn := 51) dX6_watch_50 rfl ?_
        refine aw_iand (pcn := 52) dX6_watch_51 rfl ?_
        refine aw_putO (pcn := 55) (j' := 1) hW fp_X6_305 (by decide) (by decide) (os_10 _ _ _) dX6_watch_52 rfl (fun h hW hk => ?_)
        refine aw_ilo 3 (pcn := 56) rfl dX6_watch_55 rfl rfl ?_
        exact aw_iret dX6_watch_56 rfl ⟨_, rfl, ret3 (by obtain ⟨x1, x2, x3⟩ := wch_in hI.w1 hF; rw [watchT_eq hF (by assumption), x1, q2]; first | (rw [x2]; rfl) | (rw [x3]; rfl)) hW⟩
      · refine aw_ilo 2 (pcn := 28) rfl dX6_watch_27 rfl rfl ?_
        refine aw_if_eq (t := 42) (pcn := 31) dX6_watch_28 rfl (by decide) (fun q4 => absurd q4 (by decide)) (fun q4 => ?_)
        refine aw_alo 0 (pcn := 32) rfl dX6_watch_31 rfl rfl (rf_some _) ?_
        refine aw_getf (pcn := 35) fl_X6_305 dX6_watch_32 rfl hW.sc rfl ?_
        refine aw_iconst (v := nI 1) (pcn := 36) dX6_watch_35 rfl (by decide) ?_
        refine aw_ilo 1 (pcn := 37) rfl dX6_watch_36 rfl rfl ?_
        refine aw_ishl (pcn := 38) dX6_watch_37 rfl ?_
        refine aw_ior (pcn := 39) dX6_watch_38 rfl ?_
        refine aw_goto (t := 52) dX6_watch_39 (by decide) ?_
        refine aw_putO (pcn := 55) (j' := 1) hW fp_X6_305 (by decide) (by decide) (os_10 _ _ _) dX6_watch_52 rfl (fun h hW hk => ?_)
        refine aw_ilo 3 (pcn := 56) rfl dX6_watch_55 rfl rfl ?_
        exact aw_iret dX6_watch_56 rfl ⟨_, rfl, ret3 (by obtain ⟨x1, x2, x3⟩ := wch_in hI.w1 hF; rw [watchT_eq hF (by assumption), x1, q2]; first | (rw [x2]; rfl) | (rw [x3]; rfl)) hW⟩
    · refine aw_iconst (v := nI 1) (pcn := 21) dX6_watch_20 rfl (by decide) ?_
      refine aw_goto (t := 25) dX6_watch_21 (by decide) ?_
      refine aw_ist 3 (pcn := 26) rfl dX6_watch_25 rfl (by decide) ?_
      dsimp only [List.set_cons_zero, List.set_cons_succ]
      refine aw_alo 0 (pcn := 27) rfl dX6_watch_26 rfl rfl (rf_some _) ?_
      rcases hon with rfl | rfl
      · refine aw_ilo 2 (pcn := 28) rfl dX6_watch_27 rfl rfl ?_
        refine aw_if_eq (t := 42) (pcn := 31) dX6_watch_28 rfl (by decide) (fun q5 => ?_) (fun q5 => absurd (by decide) q5)
        refine aw_alo 0 (pcn := 43) rfl dX6_watch_42 rfl rfl (rf_some _) ?_
        refine aw_getf (pcn := 46) fl_X6_305 dX6_watch_43 rfl hW.sc rfl ?_
        refine aw_iconst (v := nI 1) (pcn := 47) dX6_watch_46 rfl (by decide) ?_
        refine aw_ilo 1 (pcn := 48) rfl dX6_watch_47 rfl rfl ?_
        refine aw_ishl (pcn := 49) dX6_watch_48 rfl ?_
        refine aw_iconst (v := -1) (pcn := 50) dX6_watch_49 rfl (by decide) ?_
        refine aw_ixor (pcn := 51) dX6_watch_50 rfl ?_
        refine aw_iand (pcn := 52) dX6_watch_51 rfl ?_
        refine aw_putO (pcn := 55) (j' := 1) hW fp_X6_305 (by decide) (by decide) (os_10 _ _ _) dX6_watch_52 rfl (fun h hW hk => ?_)
        refine aw_ilo 3 (pcn := 56) rfl dX6_watch_55 rfl rfl ?_
        exact aw_iret dX6_watch_56 rfl ⟨_, rfl, ret3 (by obtain ⟨x1, x2, x3⟩ := wch_in hI.w1 hF; rw [watchT_eq hF (by assumption), x1, q2]; first | (rw [x2]; rfl) | (rw [x3]; rfl)) hW⟩
      · refine aw_ilo 2 (pcn := 28) rfl dX6_watch_27 rfl rfl ?_
        refine aw_if_eq (t := 42) (pcn := 31) dX6_watch_28 rfl (by decide) (fun q6 => absurd q6 (by decide)) (fun q6 => ?_)
        refine aw_alo 0 (pcn := 32) rfl dX6_watch_31 rfl rfl (rf_some _) ?_
        refine aw_getf (pcn := 35) fl_X6_305 dX6_watch_32 rfl hW.sc rfl ?_
        refine aw_iconst (v := nI 1) (pcn := 36) dX6_watch_35 rfl (by decide) ?_
        refine aw_ilo 1 (pcn := 37) rfl dX6_watch_36 rfl rfl ?_
        refine aw_ishl (pcn := 38) dX6_watch_37 rfl ?_
        refine aw_ior (pcn := 39) dX6_watch_38 rfl ?_
        refine aw_goto (t := 52) dX6_watch_39 (by decide) ?_
        refine aw_putO (pcn := 55) (j' := 1) hW fp_X6_305 (by decide) (by decide) (os_10 _ _ _) dX6_watch_52 rfl (fun h hW hk => ?_)
        refine aw_ilo 3 (pcn := 56) rfl dX6_watch_55 rfl rfl ?_
        exact aw_iret dX6_watch_56 rfl ⟨_, rfl, ret3 (by obtain ⟨x1, x2, x3⟩ := wch_in hI.w1 hF; rw [watchT_eq hF (by assumption), x1, q2]; first | (rw [x2]; rfl) | (rw [x3]; rfl)) hW⟩
  · refine aw_iconst (v := -1) (pcn := 8) dX6_watch_7 rfl (by decide) ?_
    exact aw_iret dX6_watch_8 rfl ⟨_, rfl, ret3 (by first | (simp only [watchT, q1, Bool.false_eq_true, Bool.true_eq_false, reduceCtorEq, if_true, if_false, or_false, false_or, or_true, true_or, and_true, true_and, and_false, false_and, not_true_eq_false, not_false_eq_true, or_self, ← Int32.not_le, shiT]; done)) (hW)⟩

set_option maxHeartbeats 1600000 in
set_option maxRecDepth 20000 in
theorem c_a_height {X : XG} {l : Launch} {Γ : NM} {ow : Nat → Nat × Nat} {h : Hp} {T Tr : TB} {nh : Nat} (hW : WD Γ ow h T Tr nh) {i C n Z hN : Nat} (hI : Iv i T C n Z hN) (kk : Int32) (ho : ∀ k, OmOK i (omN T C n k) C n Z hN) : AM X l yX6_height cX6_height 3 (some .int) 7 4800 19200 [.ref (Γ 0 0), .int kk] h (qi fun r h' => r = (heightT T C n kk).1 ∧ WD Γ ow h' (heightT T C n kk).2 Tr nh) := by
  refine AM.of (by decide +kernel) (by simp [Value.category]) (Nat.le_of_ble_eq_true rfl) ?_
  show AW X l cX6_height RX6 "height" (some .int) 3 7 none _ 4800 19200 0 [some (.ref (Γ 0 0)), some (.int kk), none] [] h
  have h64 := hI.n64
  have h8 := hI.C8
  have h16 := hI.Z16
  have h4 := hI.h4
  refine aw_ilo 1 (pcn := 1) rfl dX6_height_0 rfl rfl ?_
  refine aw_iconst (v := nI 1) (pcn := 2) dX6_height_1 rfl (by decide) ?_
  refine aw_bipush (v := nI 100) (pcn := 4) dX6_height_2 rfl (by decide) ?_
  refine aw_Si (pcn := 7) (c_isWithin _ _ _) mf_X6_isWithin mv_X6_isWithin ml_X6_42 rfl (by decide) (by decide) (by decide) (by exact Nat.le_of_ble_eq_true rfl) rfl dX6_height_4 rfl (fun r h2 hq => ?_)
  obtain ⟨rfl, hq⟩ := hq
  obtain rfl := hq.symm
  refine aw_if_neB (t := 13) (pcn := 10) dX6_height_7 rfl (by decide) (fun q1 => ?_) (fun q1 => ?_)
  · refine aw_iconst (v := nI 0) (pcn := 14) dX6_height_13 rfl (by decide) ?_
    refine aw_ist 2 (pcn := 15) rfl dX6_height_14 rfl (by decide) ?_
    dsimp only [List.set_cons_zero, List.set_cons_succ]
    obtain ⟨K, _, hK, rfl⟩ := inRp (by decide) q1
    have H : ∀ (m k : Nat), k + m = K → ∀ h, WD Γ ow h (omN T C n k) Tr nh → AW X l cX6_height RX6 "height" (some .int) 3 7 none (qi fun r h' => r = (heightT T C n (nI K)).1 ∧ WD Γ ow h' (heightT T C n (nI K)).2 Tr nh) (48 * (100 - k)) (192 * (100 - k)) 15 [some (.ref (Γ 0 0)), some (.int (nI K)), some (.int (nI k))] [] h := by
      intro m
      induction m with
      | zero  =>
        intro k hk h hW
        obtain rfl : K = k := by omega
        refine aw_ilo 2 (pcn := 16) rfl dX6_height_15 rfl rfl ?_
        refine aw_ilo 1 (pcn := 17) rfl dX6_height_16 rfl rfl ?_
        refine aw_icmp_ge (t := 30) (pcn := 20) dX6_height_17 rfl (by decide) (fun _ => ?_) (fun q => absurd (Int32.le_refl _) q)
        refine aw_alo 0 (pcn := 31) rfl dX6_height_30 rfl rfl (rf_some _) ?_
        refine aw_getf (pcn := 34) fl_X6_224 dX6_height_31 rfl hW.sc rfl ?_
        exact aw_iret dX6_height_34 rfl ⟨_, rfl, ret3 (by unfold heightT; rw [ix_nI (by omega)]; exact if_neg (by simp [*])) hW⟩
      | succ m ih =>
        intro k hk h hW
        refine aw_ilo 2 (pcn := 16) rfl dX6_height_15 rfl rfl ?_
        refine aw_ilo 1 (pcn := 17) rfl dX6_height_16 rfl rfl ?_
        refine aw_icmp_ge (t := 30) (pcn := 20) dX6_height_17 rfl (by decide) (fun q => absurd q (nI_ge (by omega) (by omega))) (fun _ => ?_)
        refine aw_alo 0 (pcn := 21) rfl dX6_height_20 rfl rfl (rf_some _) ?_
        refine aw_Vv (pcn := 24) (c_oneMore hW h64 h8 (ho k)) mf_X6_oneHeightMore mv_X6_oneHeightMore hW.sc rfl ml_X6_308 rfl (by decide) (by omega) (by omega) (by exact Nat.le_of_ble_eq_true rfl) rfl dX6_height_21 rfl (fun h hW => ?_)
        refine aw_iincN (pcn := 27) dX6_height_24 rfl (by decide) rfl ?_
        dsimp only [List.set_cons_zero, List.set_cons_succ]
        refine aw_goto (t := 15) dX6_height_27 (by decide) ?_
        refine AW.le (k' := 48 * (100 - (k + 1))) (n' := 192 * (100 - (k + 1))) (by omega) (by omega) ?_
        exact ih (k + 1) (by omega) h hW
    exact H K 0 (by omega) h hW
  · refine aw_bipush (v := -3) (pcn := 12) dX6_height_10 rfl (by decide) ?_
    exact aw_iret dX6_height_12 rfl ⟨_, rfl, ret3 (by unfold heightT; rw [if_pos q1]) hW⟩
