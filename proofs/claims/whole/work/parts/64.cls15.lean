/-! the class's face: looking -/
theorem nm_of {Γ : NM} {ow : Nat → Nat × Nat} {h : Hp} {T Tr : TB} {nh : Nat} (hW : WD Γ ow h T Tr nh) {i C n Z hN : Nat} (hI : Iv i T C n Z hN) {v : Int32} (hv : v = -1 ∨ ∃ s, s < n ∧ v = nI s) : (sref Γ v = none → v = -1) ∧ ∀ a, sref Γ v = some a → ∃ fs, h a = some (ob 4 (.int v :: fs)) := by
  have h64 := hI.n64
  rcases hv with rfl | ⟨s, hs, rfl⟩
  · exact ⟨fun _ => rfl, fun a e => (by rw [sref_m1] at e; cases e)⟩
  · refine ⟨fun e => (by rw [sref_nI (by omega)] at e; cases e), fun a e => ?_⟩
    rw [sref_nI (by omega)] at e
    cases e
    obtain ⟨g, h1, _⟩ := hW.st' (hI.vs hs)
    exact ⟨_, h1⟩
theorem inR_lo {w b : Int32} (h : w < 0) : inR w (nI 0) b = false := by
  unfold inR
  rw [decide_eq_false (by rw [nI_0]; exact Int32.not_le.mpr h), Bool.false_and]
theorem inR_up {w a b : Int32} {N : Nat} (h : nI (N + 1) ≤ w) (hN : N + 1 < 2 ^ 31) (hb : b = nI N) : inR w a b = false := by
  unfold inR
  rw [decide_eq_false (p := w ≤ b) (fun e => nI_ge (a := N) (b := N + 1) (by omega) hN (Int32.le_trans h (hb ▸ e))), Bool.and_false]
theorem lt_z {x : Int32} (h : 0 ≤ x) (h0 : x ≠ 0) : 0 < x := by
  rcases Int32.le_iff_lt_or_eq.mp h with e | e
  · exact e
  · exact absurd e.symm h0
set_option maxHeartbeats 1600000 in
set_option maxRecDepth 20000 in
theorem c_numberOf {X : XG} {l : Launch} {h : Hp}  {r : Option Nat} {v : Int32} (hr : (r = none → v = -1) ∧ ∀ a, r = some a → ∃ fs, h a = some (ob 4 (.int v :: fs))) : AM X l yX6_numberOf cX6_numberOf 1 (some .int) 0 0 0 [va_rf r] h (qi fun r h' => r = v ∧ h' = h) := by
  refine AM.of (by decide +kernel) (by cases r <;> simp [Value.category, va_rf]) (Nat.le_of_ble_eq_true rfl) ?_
  show AW X l cX6_numberOf RX6 "numberOf" (some .int) 1 0 none _ 0 0 0 [some (va_rf r)] [] h
  refine aw_alo 0 (pcn := 1) rfl dX6_numberOf_0 rfl rfl (rfl) ?_
  refine aw_ifnonnull (t := 8) (pcn := 4) dX6_numberOf_1 rfl (by decide) rfl (fun a2 q1 => ?_) (fun q1 => ?_)
  · obtain ⟨fs, hs⟩ := hr.2 _ q1
    subst q1
    refine aw_alo 0 (pcn := 9) rfl dX6_numberOf_8 rfl rfl (rf_some _) ?_
    refine aw_getf (pcn := 12) fl_X6_103 dX6_numberOf_9 rfl hs rfl ?_
    exact aw_iret dX6_numberOf_12 rfl ⟨_, rfl, ⟨by first | rfl | exact hz.symm, rfl⟩⟩
  · have hz := hr.1 q1
    refine aw_iconst (v := -1) (pcn := 5) dX6_numberOf_4 rfl (by decide) ?_
    refine aw_goto (t := 12) dX6_numberOf_5 (by decide) ?_
    exact aw_iret dX6_numberOf_12 rfl ⟨_, rfl, ⟨by first | rfl | exact hz.symm, rfl⟩⟩

set_option maxHeartbeats 1600000 in
set_option maxRecDepth 20000 in
theorem c_allThereIs {X : XG} {l : Launch} {Γ : NM} {ow : Nat → Nat × Nat} {h : Hp} {T Tr : TB} {nh : Nat} (hW : WD Γ ow h T Tr nh) {i C n Z hN : Nat} (hI : Iv i T C n Z hN) : AM X l yX6_allThereIs cX6_allThereIs 4 (some .int) 1 0 0 [.ref (Γ 0 0)] h (qi fun r h' => r = sumT T C (accT T) ∧ h' = h) := by
  refine AM.of (by decide +kernel) (by simp [Value.category]) (Nat.le_of_ble_eq_true rfl) ?_
  show AW X l cX6_allThereIs RX6 "allThereIs" (some .int) 4 1 none _ 0 0 0 [some (.ref (Γ 0 0)), none, none, none] [] h
  have h64 := hI.n64
  have h8 := hI.C8
  have h16 := hI.Z16
  have h4 := hI.h4
  refine aw_alo 0 (pcn := 1) rfl dX6_allThereIs_0 rfl rfl (rf_some _) ?_
  refine aw_getf (pcn := 4) fl_X6_10 dX6_allThereIs_1 rfl hW.sc rfl ?_
  refine aw_Vi (pcn := 7) (c_total0 hW.acc.1 hW.acc.2) mf_X5_total mv_X5_total hW.acc.1 rfl ml_X6_372 rfl (by decide) (by decide) (by decide) (by exact Nat.le_of_ble_eq_true rfl) rfl dX6_allThereIs_4 rfl (fun r h2 hq => ?_)
  obtain ⟨rfl, hq⟩ := hq
  obtain rfl := hq.symm
  rw [show nI 0 + T 0 0 + T 0 1 + T 0 2 + T 0 3 + T 0 4 + T 0 5 = accT T from rfl]
  refine aw_ist 1 (pcn := 8) rfl dX6_allThereIs_7 rfl (by decide) ?_
  dsimp only [List.set_cons_zero, List.set_cons_succ]
  refine aw_iconst (v := nI 0) (pcn := 9) dX6_allThereIs_8 rfl (by decide) ?_
  refine aw_ist 2 (pcn := 10) rfl dX6_allThereIs_9 rfl (by decide) ?_
  dsimp only [List.set_cons_zero, List.set_cons_succ]
  have H : ∀ (m k : Nat), k + m = C → ∀ x, AW X l cX6_allThereIs RX6 "allThereIs" (some .int) 4 1 none (qi fun r h' => r = sumT T C (accT T) ∧ h' = h) 0 0 10 [some (.ref (Γ 0 0)), some (.int (sumT T k (accT T))), some (.int (nI k)), x] [] h := by
    intro m
    induction m with
    | zero  =>
      intro k hk x
      obtain rfl : C = k := by omega
      refine aw_ilo 2 (pcn := 11) rfl dX6_allThereIs_10 rfl rfl ?_
      refine aw_alo 0 (pcn := 12) rfl dX6_allThereIs_11 rfl rfl (rf_some _) ?_
      refine aw_getf (pcn := 15) fl_X6_52 dX6_allThereIs_12 rfl hW.sc rfl ?_
      rw [hI.c5]
      refine aw_icmp_ge (t := 41) (pcn := 18) dX6_allThereIs_15 rfl (by decide) (fun _ => ?_) (fun q => absurd (Int32.le_refl _) q)
      refine aw_ilo 1 (pcn := 42) rfl dX6_allThereIs_41 rfl rfl ?_
      exact aw_iret dX6_allThereIs_42 rfl ⟨_, rfl, ⟨rfl, rfl⟩⟩
    | succ m ih =>
      intro k hk x
      refine aw_ilo 2 (pcn := 11) rfl dX6_allThereIs_10 rfl rfl ?_
      refine aw_alo 0 (pcn := 12) rfl dX6_allThereIs_11 rfl rfl (rf_some _) ?_
      refine aw_getf (pcn := 15) fl_X6_52 dX6_allThereIs_12 rfl hW.sc rfl ?_
      rw [hI.c5]
      refine aw_icmp_ge (t := 41) (pcn := 18) dX6_allThereIs_15 rfl (by decide) (fun q => absurd q (nI_ge (by omega) (by omega))) (fun _ => ?_)
      have hkC : k < C := by omega
      have vc := hI.vc hkC
      obtain ⟨g, hc, hg⟩ := hW.ch vc
      refine aw_alo 0 (pcn := 19) rfl dX6_allThereIs_18 rfl rfl (rf_some _) ?_
      refine aw_ilo 2 (pcn := 20) rfl dX6_allThereIs_19 rfl rfl ?_
      refine aw_Vr (pcn := 23) (c_channelAtN hW hI hkC) mf_X6_channelAt mv_X6_channelAt hW.sc rfl ml_X6_93 rfl (by decide) (by decide) (by decide) (by exact Nat.le_of_ble_eq_true rfl) rfl dX6_allThereIs_20 rfl (fun r h2 hq => ?_)
      obtain ⟨hq, hh⟩ := hq
      obtain rfl := hh.symm
      rcases hq with (rfl)
      · refine aw_ast 3 (pcn := 24) rfl dX6_allThereIs_23 rfl (by decide) (rf_some _) ?_
        dsimp only [List.set_cons_zero, List.set_cons_succ]
        refine aw_alo 3 (pcn := 25) rfl dX6_allThereIs_24 rfl rfl (rf_some _) ?_
        refine aw_ifnull (t := 35) (pcn := 28) dX6_allThereIs_25 rfl (by decide) (rf_some _) (fun q1 => by cases q1) (fun a2 q1 => ?_)
        clear q1 a2
        refine aw_ilo 1 (pcn := 29) rfl dX6_allThereIs_28 rfl rfl ?_
        refine aw_alo 3 (pcn := 30) rfl dX6_allThereIs_29 rfl rfl (rf_some _) ?_
        refine aw_getf (pcn := 33) fl_X6_77 dX6_allThereIs_30 rfl hc rfl ?_
        refine aw_iadd (pcn := 34) dX6_allThereIs_33 rfl ?_
        refine aw_ist 1 (pcn := 35) rfl dX6_allThereIs_34 rfl (by decide) ?_
        dsimp only [List.set_cons_zero, List.set_cons_succ]
        refine aw_iincN (pcn := 38) dX6_allThereIs_35 rfl (by decide) rfl ?_
        dsimp only [List.set_cons_zero, List.set_cons_succ]
        refine aw_goto (t := 10) dX6_allThereIs_38 (by decide) ?_
        exact ih (k + 1) (by omega) _
  exact H C 0 (by omega) none

set_option maxHeartbeats 1600000 in
set_option maxRecDepth 20000 in
theorem c_a_account {X : XG} {l : Launch} {Γ : NM} {ow : Nat → Nat × Nat} {h : Hp} {T Tr : TB} {nh : Nat} (hW : WD Γ ow h T Tr nh) {i C n Z hN : Nat} (hI : Iv i T C n Z hN) (p : Int32) : AM X l yX6_account cX6_account 2 (some .int) 1 0 0 [.ref (Γ 0 0), .int p] h (qi fun r h' => r = accountT T p ∧ h' = h) := by
  refine AM.of (by decide +kernel) (by simp [Value.category]) (Nat.le_of_ble_eq_true rfl) ?_
  show AW X l cX6_account RX6 "account" (some .int) 2 1 none _ 0 0 0 [some (.ref (Γ 0 0)), some (.int p)] [] h
  have h64 := hI.n64
  have h8 := hI.C8
  have h16 := hI.Z16
  have h4 := hI.h4
  refine aw_ilo 1 (pcn := 1) rfl dX6_account_0 rfl rfl ?_
  refine aw_Si (pcn := 4) (c_isParty _) mf_X6_isParty mv_X6_isParty ml_X6_262 rfl (by decide) (by decide) (by decide) (by exact Nat.le_of_ble_eq_true rfl) rfl dX6_account_1 rfl (fun r h2 hq => ?_)
  obtain ⟨rfl, hq⟩ := hq
  obtain rfl := hq.symm
  refine aw_if_eqB (t := 18) (pcn := 7) dX6_account_4 rfl (by decide) (fun q1 => ?_) (fun q1 => ?_)
  · refine aw_iconst (v := -1) (pcn := 19) dX6_account_18 rfl (by decide) ?_
    exact aw_iret dX6_account_19 rfl ⟨_, rfl, ⟨by unfold accountT; first | (rw [if_pos (by assumption)]; done) | (rw [if_neg (by simp only [isPT] at *; simp [*]), ix_nI (by omega)]; first | done | exact sgT_nI hF), rfl⟩⟩
  · obtain ⟨F, hF, rfl⟩ := isPT_nI q1
    refine aw_alo 0 (pcn := 8) rfl dX6_account_7 rfl rfl (rf_some _) ?_
    refine aw_getf (pcn := 11) fl_X6_10 dX6_account_8 rfl hW.sc rfl ?_
    refine aw_ilo 1 (pcn := 12) rfl dX6_account_11 rfl rfl ?_
    refine aw_Vi (pcn := 15) (c_get0 hW.acc.1 hW.acc.2 _) mf_X5_get mv_X5_get hW.acc.1 rfl ml_X6_110 rfl (by decide) (by decide) (by decide) (by exact Nat.le_of_ble_eq_true rfl) rfl dX6_account_12 rfl (fun r h2 hq => ?_)
    obtain ⟨rfl, hq⟩ := hq
    obtain rfl := hq.symm
    refine aw_goto (t := 19) dX6_account_15 (by decide) ?_
    exact aw_iret dX6_account_19 rfl ⟨_, rfl, ⟨by unfold accountT; first | (rw [if_pos (by assumption)]; done) | (rw [if_neg (by simp only [isPT] at *; simp [*]), ix_nI (by omega)]; first | done | exact sgT_nI hF), rfl⟩⟩

set_option maxHeartbeats 1600000 in
set_option maxRecDepth 20000 in
theorem c_a_told {X : XG} {l : Launch} {Γ : NM} {ow : Nat → Nat × Nat} {h : Hp} {T Tr : TB} {nh : Nat} (hW : WD Γ ow h T Tr nh) {i C n Z hN : Nat} (hI : Iv i T C n Z hN) (k w : Int32) : AM X l yX6_told cX6_told 5 (some .int) 1 0 0 [.ref (Γ 0 0), .int k, .int w] h (qi fun r h' => r = toldT T n k w ∧ h' = h) := by
  refine AM.of (by decide +kernel) (by simp [Value.category]) (Nat.le_of_ble_eq_true rfl) ?_
  show AW X l cX6_told RX6 "told" (some .int) 5 1 none _ 0 0 0 [some (.ref (Γ 0 0)), some (.int k), some (.int w), none, none] [] h
  have h64 := hI.n64
  have h8 := hI.C8
  have h16 := hI.Z16
  have h4 := hI.h4
  refine aw_alo 0 (pcn := 1) rfl dX6_told_0 rfl rfl (rf_some _) ?_
  refine aw_ilo 1 (pcn := 2) rfl dX6_told_1 rfl rfl ?_
  refine aw_Vr (pcn := 5) (c_channelAt hW hI _) mf_X6_channelAt mv_X6_channelAt hW.sc rfl ml_X6_93 rfl (by decide) (by decide) (by decide) (by exact Nat.le_of_ble_eq_true rfl) rfl dX6_told_2 rfl (fun r h2 hq => ?_)
  obtain ⟨hq, hh⟩ := hq
  obtain rfl := hh.symm
  rcases hq with ⟨e0, rfl⟩ | ⟨c, hcC, rfl, hct, rfl⟩
  · refine aw_ast 3 (pcn := 6) rfl dX6_told_5 rfl (by decide) (rf_none) ?_
    dsimp only [List.set_cons_zero, List.set_cons_succ]
    refine aw_alo 3 (pcn := 7) rfl dX6_told_6 rfl rfl (rf_none) ?_
    refine aw_ifnonnull (t := 12) (pcn := 10) dX6_told_7 rfl (by decide) (rf_none) (fun a2 q1 => by cases q1) (fun q1 => ?_)
    clear q1
    refine aw_iconst (v := -1) (pcn := 11) dX6_told_10 rfl (by decide) ?_
    exact aw_iret dX6_told_11 rfl ⟨_, rfl, ⟨by unfold toldT; exact (if_pos e0).symm, rfl⟩⟩
  · have hc8 : c < 8 := by omega
    have vc := hI.vc hcC
    have e25 : T 25 c = if T 9 c = nI 3 then -1 else nwT T c n := by
      by_cases e : T 9 c = nI 3
      · rw [if_pos e]; exact (hI.ch hcC).2.2.2.2.2.2.1 e
      · rw [if_neg e]; exact ((hI.ch hcC).2.2.2.2.2.2.2.1 e).1
    have e26 : T 26 c = if T 9 c = nI 2 then T 11 c else nI 0 := by
      by_cases e : T 9 c = nI 2
      · rw [if_pos e]; exact (hI.ch hcC).2.2.2.2.2.2.2.2.1 e
      · rw [if_neg e]; exact ((hI.ch hcC).2.2.2.2.2.2.2.2.2 e).trans nI_0.symm
    have hg0 : ∀ x : Int32, ¬ T 13 c = 0 → x = if 0 < T 13 c then x else nI 0 := fun x e => (if_pos (lt_z (hI.he hcC).2.2.2.1.1 e)).symm
    have e27 : T 27 c = if 0 < T 13 c then T 17 c else nI 0 := by
      by_cases e : T 13 c = 0
      · rw [if_neg (by rw [e]; decide)]; exact ((hI.he hcC).2.2.2.2.2 e).trans nI_0.symm
      · rw [if_pos (lt_z (hI.he hcC).2.2.2.1.1 e)]; exact (hI.he hcC).2.2.2.2.1 e
    have n25 : T 25 c = -1 ∨ ∃ s, s < n ∧ T 25 c = nI s := by
      by_cases e : T 9 c = nI 3
      · exact Or.inl ((hI.ch hcC).2.2.2.2.2.2.1 e)
      · obtain ⟨x1, s, x2, x3⟩ := (hI.ch hcC).2.2.2.2.2.2.2.1 e
        exact Or.inr ⟨s, x2, x1.trans x3⟩
    have n10 : T 10 c = -1 ∨ ∃ s, s < n ∧ T 10 c = nI s := by
      by_cases e : T 9 c = nI 1
      · exact Or.inl ((hI.ch hcC).2.2.2.1 e)
      · obtain ⟨b, x1, x2, _⟩ := (hI.ch hcC).2.2.2.2.1 e
        exact Or.inr ⟨b, x1, x2⟩
    refine aw_ast 3 (pcn := 6) rfl dX6_told_5 rfl (by decide) (rf_some _) ?_
    dsimp only [List.set_cons_zero, List.set_cons_succ]
    refine aw_alo 3 (pcn := 7) rfl dX6_told_6 rfl rfl (rf_some _) ?_
    refine aw_ifnonnull (t := 12) (pcn := 10) dX6_told_7 rfl (by decide) (rf_some _) (fun a4 q3 => ?_) (fun q3 => by cases q3)
    clear q3 a4
    refine aw_alo 3 (pcn := 13) rfl dX6_told_12 rfl rfl (rf_some _) ?_
    obtain ⟨g, hc, hg⟩ := hW.ch (c := c) vc
    refine aw_getf (pcn := 16) fl_X6_250 dX6_told_13 rfl hc rfl ?_
    refine aw_astore (pcn := 18) dX6_told_16 rfl (by decide) (rfl) ?_
    dsimp only [List.set_cons_zero, List.set_cons_succ]
    refine aw_ilo 2 (pcn := 19) rfl dX6_told_18 rfl rfl ?_
    rcases pk_ix w (n := 12) (by decide) with hsw | hsw | ⟨jj, hj, rfl⟩
    · refine aw_tsOut (t := 176) dX6_told_19 (Or.inl (ts_lo hsw)) (by decide) ?_
      refine aw_iconst (v := -1) (pcn := 177) dX6_told_176 rfl (by decide) ?_
      exact aw_iret dX6_told_177 rfl ⟨_, rfl, ⟨by rw [toldT_eq hc8 hct, swI_lo hsw], rfl⟩⟩
    · refine aw_tsOut (t := 176) dX6_told_19 (Or.inr (ts_hi 12 (by decide) hsw)) (by decide) ?_
      refine aw_iconst (v := -1) (pcn := 177) dX6_told_176 rfl (by decide) ?_
      exact aw_iret dX6_told_177 rfl ⟨_, rfl, ⟨by rw [toldT_eq hc8 hct, swI_hi hsw], rfl⟩⟩
    · rcases (show jj = 0 ∨ jj = 1 ∨ jj = 2 ∨ jj = 3 ∨ jj = 4 ∨ jj = 5 ∨ jj = 6 ∨ jj = 7 ∨ jj = 8 ∨ jj = 9 ∨ jj = 10 ∨ jj = 11 by omega) with rfl | rfl | rfl | rfl | rfl | rfl | rfl | rfl | rfl | rfl | rfl | rfl
      · refine aw_tsIn (off := 61) (t := 80) dX6_told_19 (by decide) (by decide) (by decide) (by decide) ?_
        refine aw_alo 3 (pcn := 81) rfl dX6_told_80 rfl rfl (rf_some _) ?_
        obtain ⟨g, hc, hg⟩ := hW.ch (c := c) vc
        refine aw_getf (pcn := 84) fl_X6_97 dX6_told_81 rfl hc rfl ?_
        exact aw_iret dX6_told_84 rfl ⟨_, rfl, ⟨by rw [toldT_eq hc8 hct, swI_in (by decide) (by decide)]; rfl, rfl⟩⟩
      · refine aw_tsIn (off := 66) (t := 85) dX6_told_19 (by decide) (by decide) (by decide) (by decide) ?_
        refine aw_alo 3 (pcn := 86) rfl dX6_told_85 rfl rfl (rf_some _) ?_
        obtain ⟨g, hc, hg⟩ := hW.ch (c := c) vc
        refine aw_getf (pcn := 89) fl_X6_77 dX6_told_86 rfl hc rfl ?_
        exact aw_iret dX6_told_89 rfl ⟨_, rfl, ⟨by rw [toldT_eq hc8 hct, swI_in (by decide) (by decide)]; rfl, rfl⟩⟩
      · refine aw_tsIn (off := 71) (t := 90) dX6_told_19 (by decide) (by decide) (by decide) (by decide) ?_
        refine aw_alo 3 (pcn := 91) rfl dX6_told_90 rfl rfl (rf_some _) ?_
        obtain ⟨g, hc, hg⟩ := hW.ch (c := c) vc
        refine aw_getf (pcn := 94) fl_X6_227 dX6_told_91 rfl hc rfl ?_
        exact aw_iret dX6_told_94 rfl ⟨_, rfl, ⟨by rw [toldT_eq hc8 hct, swI_in (by decide) (by decide)]; rfl, rfl⟩⟩
      · refine aw_tsIn (off := 76) (t := 95) dX6_told_19 (by decide) (by decide) (by decide) (by decide) ?_
        refine aw_alo 3 (pcn := 96) rfl dX6_told_95 rfl rfl (rf_some _) ?_
        obtain ⟨g, hc, hg⟩ := hW.ch (c := c) vc
        refine aw_getf (pcn := 99) fl_X6_218 dX6_told_96 rfl hc rfl ?_
        exact aw_iret dX6_told_99 rfl ⟨_, rfl, ⟨by rw [toldT_eq hc8 hct, swI_in (by decide) (by decide)]; rfl, rfl⟩⟩
      · refine aw_tsIn (off := 81) (t := 100) dX6_told_19 (by decide) (by decide) (by decide) (by decide) ?_
        refine aw_alo 3 (pcn := 101) rfl dX6_told_100 rfl rfl (rf_some _) ?_
        obtain ⟨g, hc, hg⟩ := hW.ch (c := c) vc
        refine aw_getf (pcn := 104) fl_X6_86 dX6_told_101 rfl hc rfl ?_
        refine aw_Si (pcn := 107) (c_numberOf (r := sref Γ (T 25 c)) (v := T 25 c) (nm_of hW hI n25)) mf_X6_numberOf mv_X6_numberOf ml_X6_359 rfl (by decide) (by decide) (by decide) (by exact Nat.le_of_ble_eq_true rfl) rfl dX6_told_104 rfl (fun r h2 hq => ?_)
        obtain ⟨rfl, hq⟩ := hq
        obtain rfl := hq.symm
        exact aw_iret dX6_told_107 rfl ⟨_, rfl, ⟨by rw [toldT_eq hc8 hct, swI_in (by decide) (by decide)]; exact e25, rfl⟩⟩
      · refine aw_tsIn (off := 89) (t := 108) dX6_told_19 (by decide) (by decide) (by decide) (by decide) ?_
        refine aw_alo 3 (pcn := 109) rfl dX6_told_108 rfl rfl (rf_some _) ?_
        obtain ⟨g, hc, hg⟩ := hW.ch (c := c) vc
        refine aw_getf (pcn := 112) fl_X6_230 dX6_told_109 rfl hc rfl ?_
        refine aw_Si (pcn := 115) (c_numberOf (r := sref Γ (T 10 c)) (v := T 10 c) (nm_of hW hI n10)) mf_X6_numberOf mv_X6_numberOf ml_X6_359 rfl (by decide) (by decide) (by decide) (by exact Nat.le_of_ble_eq_true rfl) rfl dX6_told_112 rfl (fun r h2 hq => ?_)
        obtain ⟨rfl, hq⟩ := hq
        obtain rfl := hq.symm
        exact aw_iret dX6_told_115 rfl ⟨_, rfl, ⟨by rw [toldT_eq hc8 hct, swI_in (by decide) (by decide)]; rfl, rfl⟩⟩
      · refine aw_tsIn (off := 97) (t := 116) dX6_told_19 (by decide) (by decide) (by decide) (by decide) ?_
        refine aw_alo 3 (pcn := 117) rfl dX6_told_116 rfl rfl (rf_some _) ?_
        obtain ⟨g, hc, hg⟩ := hW.ch (c := c) vc
        refine aw_getf (pcn := 120) fl_X6_212 dX6_told_117 rfl hc rfl ?_
        exact aw_iret dX6_told_120 rfl ⟨_, rfl, ⟨by rw [toldT_eq hc8 hct, swI_in (by decide) (by decide)]; exact e26, rfl⟩⟩
      · refine aw_tsIn (off := 102) (t := 121) dX6_told_19 (by decide) (by decide) (by decide) (by decide) ?_
        refine aw_alo 3 (pcn := 122) rfl dX6_told_121 rfl rfl (rf_some _) ?_
        obtain ⟨g, hc, hg⟩ := hW.ch (c := c) vc
        refine aw_getf (pcn := 125) fl_X6_259 dX6_told_122 rfl hc rfl ?_
        exact aw_iret dX6_told_125 rfl ⟨_, rfl, ⟨by rw [toldT_eq hc8 hct, swI_in (by decide) (by decide)]; rfl, rfl⟩⟩
      · refine aw_tsIn (off := 107) (t := 126) dX6_told_19 (by decide) (by decide) (by decide) (by decide) ?_
        refine aw_aload (pcn := 128) dX6_told_126 rfl rfl (rfl) ?_
        refine aw_ifnonnull (t := 135) (pcn := 131) dX6_told_128 rfl (by decide) rfl (fun a6 q5 => ?_) (fun q5 => ?_)
        · have hz := hg.s q5
          subst q5
          have hgm := hz.2
          have hgz := lt_z (hI.he hcC).2.2.2.1.1 hz.1
          refine aw_aload (pcn := 137) dX6_told_135 rfl rfl (rf_some _) ?_
          refine aw_getf (pcn := 140) fl_X6_189 dX6_told_137 rfl hgm rfl ?_
          exact aw_iret dX6_told_140 rfl ⟨_, rfl, ⟨by rw [toldT_eq hc8 hct, swI_in (by decide) (by decide)]; first | exact (if_pos hgz).symm | exact (if_neg hgz).symm, rfl⟩⟩
        · have hgz : ¬ 0 < T 13 c := by rw [hg.n q5]; decide
          refine aw_iconst (v := -1) (pcn := 132) dX6_told_131 rfl (by decide) ?_
          refine aw_goto (t := 140) dX6_told_132 (by decide) ?_
          exact aw_iret dX6_told_140 rfl ⟨_, rfl, ⟨by rw [toldT_eq hc8 hct, swI_in (by decide) (by decide)]; first | exact (if_pos hgz).symm | exact (if_neg hgz).symm, rfl⟩⟩
      · refine aw_tsIn (off := 122) (t := 141) dX6_told_19 (by decide) (by decide) (by decide) (by decide) ?_
        refine aw_aload (pcn := 143) dX6_told_141 rfl rfl (rfl) ?_
        refine aw_ifnonnull (t := 150) (pcn := 146) dX6_told_143 rfl (by decide) rfl (fun a8 q7 => ?_) (fun q7 => ?_)
        · have hz := hg.s q7
          subst q7
          have hgm := hz.2
          have hgz := lt_z (hI.he hcC).2.2.2.1.1 hz.1
          refine aw_aload (pcn := 152) dX6_told_150 rfl rfl (rf_some _) ?_
          refine aw_getf (pcn := 155) fl_X6_182 dX6_told_152 rfl hgm rfl ?_
          exact aw_iret dX6_told_155 rfl ⟨_, rfl, ⟨by rw [toldT_eq hc8 hct, swI_in (by decide) (by decide)]; first | exact (if_pos hgz).symm | exact (if_neg hgz).symm, rfl⟩⟩
        · have hgz : ¬ 0 < T 13 c := by rw [hg.n q7]; decide
          refine aw_iconst (v := nI 0) (pcn := 147) dX6_told_146 rfl (by decide) ?_
          refine aw_goto (t := 155) dX6_told_147 (by decide) ?_
          exact aw_iret dX6_told_155 rfl ⟨_, rfl, ⟨by rw [toldT_eq hc8 hct, swI_in (by decide) (by decide)]; first | exact (if_pos hgz).symm | exact (if_neg hgz).symm, rfl⟩⟩
      · refine aw_tsIn (off := 137) (t := 156) dX6_told_19 (by decide) (by decide) (by decide) (by decide) ?_
        refine aw_alo 3 (pcn := 157) rfl dX6_told_156 rfl rfl (rf_some _) ?_
        obtain ⟨g, hc, hg⟩ := hW.ch (c := c) vc
        refine aw_getf (pcn := 160) fl_X6_253 dX6_told_157 rfl hc rfl ?_
        exact aw_iret dX6_told_160 rfl ⟨_, rfl, ⟨by rw [toldT_eq hc8 hct, swI_in (by decide) (by decide)]; exact e27, rfl⟩⟩
      · refine aw_tsIn (off := 142) (t := 161) dX6_told_19 (by decide) (by decide) (by decide) (by decide) ?_
        refine aw_aload (pcn := 163) dX6_told_161 rfl rfl (rfl) ?_
        refine aw_ifnonnull (t := 170) (pcn := 166) dX6_told_163 rfl (by decide) rfl (fun a10 q9 => ?_) (fun q9 => ?_)
        · have hz := hg.s q9
          subst q9
          have hgm := hz.2
          have hgz := lt_z (hI.he hcC).2.2.2.1.1 hz.1
          refine aw_aload (pcn := 172) dX6_told_170 rfl rfl (rf_some _) ?_
          refine aw_getf (pcn := 175) fl_X6_179 dX6_told_172 rfl hgm rfl ?_
          exact aw_iret dX6_told_175 rfl ⟨_, rfl, ⟨by rw [toldT_eq hc8 hct, swI_in (by decide) (by decide)]; first | rfl | (have e := (Int32.le_antisymm (Int32.not_lt.mp hgz) (hI.he hcC).2.2.2.1.1); exact nI_0.trans e.symm), rfl⟩⟩
        · have hgz : ¬ 0 < T 13 c := by rw [hg.n q9]; decide
          refine aw_iconst (v := nI 0) (pcn := 167) dX6_told_166 rfl (by decide) ?_
          refine aw_goto (t := 175) dX6_told_167 (by decide) ?_
          exact aw_iret dX6_told_175 rfl ⟨_, rfl, ⟨by rw [toldT_eq hc8 hct, swI_in (by decide) (by decide)]; first | rfl | (have e := (Int32.le_antisymm (Int32.not_lt.mp hgz) (hI.he hcC).2.2.2.1.1); exact nI_0.trans e.symm), rfl⟩⟩

set_option maxHeartbeats 1600000 in
set_option maxRecDepth 20000 in
theorem c_a_of {X : XG} {l : Launch} {Γ : NM} {ow : Nat → Nat × Nat} {h : Hp} {T Tr : TB} {nh : Nat} (hW : WD Γ ow h T Tr nh) {i C n Z hN : Nat} (hI : Iv i T C n Z hN) (s w : Int32) : AM X l yX6_of cX6_of 5 (some .int) 3 2 0 [.ref (Γ 0 0), .int s, .int w] h (qi fun r h' => r = ofT T s w ∧ h' = h) := by
  refine AM.of (by decide +kernel) (by simp [Value.category]) (Nat.le_of_ble_eq_true rfl) ?_
  show AW X l cX6_of RX6 "of" (some .int) 5 3 none _ 2 0 0 [some (.ref (Γ 0 0)), some (.int s), some (.int w), none, none] [] h
  have h64 := hI.n64
  have h8 := hI.C8
  have h16 := hI.Z16
  have h4 := hI.h4
  refine aw_alo 0 (pcn := 1) rfl dX6_of_0 rfl rfl (rf_some _) ?_
  refine aw_ilo 1 (pcn := 2) rfl dX6_of_1 rfl rfl ?_
  refine aw_Vr (pcn := 5) (c_stateAt hW hI _) mf_X6_stateAt mv_X6_stateAt hW.sc rfl ml_X6_123 rfl (by decide) (by decide) (by decide) (by exact Nat.le_of_ble_eq_true rfl) rfl dX6_of_2 rfl (fun r h2 hq => ?_)
  obtain ⟨hq, hh⟩ := hq
  obtain rfl := hh.symm
  rcases hq with ⟨e0, rfl⟩ | ⟨S, c, hSn, hcC, hc0, rfl, hst, rfl⟩
  · refine aw_ast 3 (pcn := 6) rfl dX6_of_5 rfl (by decide) (rf_none) ?_
    dsimp only [List.set_cons_zero, List.set_cons_succ]
    refine aw_alo 3 (pcn := 7) rfl dX6_of_6 rfl rfl (rf_none) ?_
    refine aw_ifnonnull (t := 12) (pcn := 10) dX6_of_7 rfl (by decide) (rf_none) (fun a2 q1 => by cases q1) (fun q1 => ?_)
    clear q1
    refine aw_iconst (v := -1) (pcn := 11) dX6_of_10 rfl (by decide) ?_
    exact aw_iret dX6_of_11 rfl ⟨_, rfl, ⟨by unfold ofT; exact (if_pos e0).symm, rfl⟩⟩
  · have hS : S < 64 := by omega
    have hc8 : c < 8 := by omega
    have vc := hI.vc hcC
    have vs := hI.vs hSn
    refine aw_ast 3 (pcn := 6) rfl dX6_of_5 rfl (by decide) (rf_some _) ?_
    dsimp only [List.set_cons_zero, List.set_cons_succ]
    refine aw_alo 3 (pcn := 7) rfl dX6_of_6 rfl rfl (rf_some _) ?_
    refine aw_ifnonnull (t := 12) (pcn := 10) dX6_of_7 rfl (by decide) (rf_some _) (fun a4 q3 => ?_) (fun q3 => by cases q3)
    clear q3 a4
    refine aw_alo 3 (pcn := 13) rfl dX6_of_12 rfl rfl (rf_some _) ?_
    obtain ⟨gs, hs, hgs⟩ := hW.st (s := S) vs hc8 hc0
    refine aw_getf (pcn := 16) fl_X6_170 dX6_of_13 rfl hs rfl ?_
    refine aw_astore (pcn := 18) dX6_of_16 rfl (by decide) (rfl) ?_
    dsimp only [List.set_cons_zero, List.set_cons_succ]
    refine aw_ilo 2 (pcn := 19) rfl dX6_of_18 rfl rfl ?_
    rcases pk_ix w (n := 10) (by decide) with hsw | hsw | ⟨jj, hj, rfl⟩
    · refine aw_tsOut (t := 173) dX6_of_19 (Or.inl (ts_lo hsw)) (by decide) ?_
      refine aw_iconst (v := -1) (pcn := 174) dX6_of_173 rfl (by decide) ?_
      exact aw_iret dX6_of_174 rfl ⟨_, rfl, ⟨by rw [ofT_eq hS hc8 hc0 hst, swI_lo hsw], rfl⟩⟩
    · refine aw_tsOut (t := 173) dX6_of_19 (Or.inr (ts_hi 10 (by decide) hsw)) (by decide) ?_
      refine aw_iconst (v := -1) (pcn := 174) dX6_of_173 rfl (by decide) ?_
      exact aw_iret dX6_of_174 rfl ⟨_, rfl, ⟨by rw [ofT_eq hS hc8 hc0 hst, swI_hi hsw], rfl⟩⟩
    · rcases (show jj = 0 ∨ jj = 1 ∨ jj = 2 ∨ jj = 3 ∨ jj = 4 ∨ jj = 5 ∨ jj = 6 ∨ jj = 7 ∨ jj = 8 ∨ jj = 9 by omega) with rfl | rfl | rfl | rfl | rfl | rfl | rfl | rfl | rfl | rfl
      · refine aw_tsIn (off := 53) (t := 72) dX6_of_19 (by decide) (by decide) (by decide) (by decide) ?_
        refine aw_alo 3 (pcn := 73) rfl dX6_of_72 rfl rfl (rf_some _) ?_
        obtain ⟨gs, hs, hgs⟩ := hW.st (s := S) vs hc8 hc0
        refine aw_getf (pcn := 76) fl_X6_195 dX6_of_73 rfl hs rfl ?_
        obtain ⟨g, hc, hg⟩ := hW.ch (c := c) vc
        refine aw_getf (pcn := 79) fl_X6_90 dX6_of_76 rfl hc rfl ?_
        exact aw_iret dX6_of_79 rfl ⟨_, rfl, ⟨by rw [ofT_eq hS hc8 hc0 hst, swI_in (by decide) (by decide)]; exact hc0.symm, rfl⟩⟩
      · refine aw_tsIn (off := 61) (t := 80) dX6_of_19 (by decide) (by decide) (by decide) (by decide) ?_
        refine aw_alo 3 (pcn := 81) rfl dX6_of_80 rfl rfl (rf_some _) ?_
        obtain ⟨gs, hs, hgs⟩ := hW.st (s := S) vs hc8 hc0
        refine aw_getf (pcn := 84) fl_X6_363 dX6_of_81 rfl hs rfl ?_
        exact aw_iret dX6_of_84 rfl ⟨_, rfl, ⟨by rw [ofT_eq hS hc8 hc0 hst, swI_in (by decide) (by decide)]; rfl, rfl⟩⟩
      · refine aw_tsIn (off := 66) (t := 85) dX6_of_19 (by decide) (by decide) (by decide) (by decide) ?_
        refine aw_alo 3 (pcn := 86) rfl dX6_of_85 rfl rfl (rf_some _) ?_
        obtain ⟨gs, hs, hgs⟩ := hW.st (s := S) vs hc8 hc0
        refine aw_getf (pcn := 89) fl_X6_83 dX6_of_86 rfl hs rfl ?_
        exact aw_iret dX6_of_89 rfl ⟨_, rfl, ⟨by rw [ofT_eq hS hc8 hc0 hst, swI_in (by decide) (by decide)]; rfl, rfl⟩⟩
      · refine aw_tsIn (off := 71) (t := 90) dX6_of_19 (by decide) (by decide) (by decide) (by decide) ?_
        refine aw_alo 3 (pcn := 91) rfl dX6_of_90 rfl rfl (rf_some _) ?_
        obtain ⟨gs, hs, hgs⟩ := hW.st (s := S) vs hc8 hc0
        refine aw_getf (pcn := 94) fl_X6_215 dX6_of_91 rfl hs rfl ?_
        exact aw_iret dX6_of_94 rfl ⟨_, rfl, ⟨by rw [ofT_eq hS hc8 hc0 hst, swI_in (by decide) (by decide)]; rfl, rfl⟩⟩
      · refine aw_tsIn (off := 76) (t := 95) dX6_of_19 (by decide) (by decide) (by decide) (by decide) ?_
        refine aw_alo 3 (pcn := 96) rfl dX6_of_95 rfl rfl (rf_some _) ?_
        obtain ⟨gs, hs, hgs⟩ := hW.st (s := S) vs hc8 hc0
        refine aw_Vi (pcn := 99) (c_doesCount hW hI hSn hcC hc0) mf_X4_doesCount mv_X4_doesCount hs rfl ml_X6_202 rfl (by decide) (by decide) (by decide) (by exact Nat.le_of_ble_eq_true rfl) rfl dX6_of_96 rfl (fun r h2 hq => ?_)
        obtain ⟨rfl, hq⟩ := hq
        obtain rfl := hq.symm
        refine aw_if_eqB (t := 106) (pcn := 102) dX6_of_99 rfl (by decide) (fun q5 => ?_) (fun q5 => ?_)
        · refine aw_iconst (v := nI 0) (pcn := 107) dX6_of_106 rfl (by decide) ?_
          exact aw_iret dX6_of_107 rfl ⟨_, rfl, ⟨by rw [ofT_eq hS hc8 hc0 hst, swI_in (by decide) (by decide)]; first | exact (if_pos q5).symm | exact (if_neg q5).symm | exact (if_neg (by rw [q5]; decide)).symm, rfl⟩⟩
        · refine aw_iconst (v := nI 1) (pcn := 103) dX6_of_102 rfl (by decide) ?_
          refine aw_goto (t := 107) dX6_of_103 (by decide) ?_
          exact aw_iret dX6_of_107 rfl ⟨_, rfl, ⟨by rw [ofT_eq hS hc8 hc0 hst, swI_in (by decide) (by decide)]; first | exact (if_pos q5).symm | exact (if_neg q5).symm | exact (if_neg (by rw [q5]; decide)).symm, rfl⟩⟩
      · refine aw_tsIn (off := 89) (t := 108) dX6_of_19 (by decide) (by decide) (by decide) (by decide) ?_
        refine aw_alo 3 (pcn := 109) rfl dX6_of_108 rfl rfl (rf_some _) ?_
        obtain ⟨gs, hs, hgs⟩ := hW.st (s := S) vs hc8 hc0
        refine aw_Vi (pcn := 112) (c_whole hW hI hSn hcC hc0) mf_X4_whole mv_X4_whole hs rfl ml_X6_366 rfl (by decide) (by decide) (by decide) (by exact Nat.le_of_ble_eq_true rfl) rfl dX6_of_109 rfl (fun r h2 hq => ?_)
        obtain ⟨rfl, hq⟩ := hq
        obtain rfl := hq.symm
        exact aw_iret dX6_of_112 rfl ⟨_, rfl, ⟨by rw [ofT_eq hS hc8 hc0 hst, swI_in (by decide) (by decide)]; rfl, rfl⟩⟩
      · refine aw_tsIn (off := 94) (t := 113) dX6_of_19 (by decide) (by decide) (by decide) (by decide) ?_
        refine aw_aload (pcn := 115) dX6_of_113 rfl rfl (rfl) ?_
        refine aw_ifnonnull (t := 122) (pcn := 118) dX6_of_115 rfl (by decide) rfl (fun a7 q6 => ?_) (fun q6 => ?_)
        · have hz := hgs.s q6
          subst q6
          have hgm := hz.2
          refine aw_aload (pcn := 124) dX6_of_122 rfl rfl (rf_some _) ?_
          refine aw_getf (pcn := 127) fl_X6_189 dX6_of_124 rfl hgm rfl ?_
          exact aw_iret dX6_of_127 rfl ⟨_, rfl, ⟨by rw [ofT_eq hS hc8 hc0 hst, swI_in (by decide) (by decide)]; first | rfl | exact hz.2.1.symm, rfl⟩⟩
        · have hz := (hI.st hSn).2.2.2.2.1 (hgs.n q6)
          have hz0 := hgs.n q6
          refine aw_iconst (v := -1) (pcn := 119) dX6_of_118 rfl (by decide) ?_
          refine aw_goto (t := 127) dX6_of_119 (by decide) ?_
          exact aw_iret dX6_of_127 rfl ⟨_, rfl, ⟨by rw [ofT_eq hS hc8 hc0 hst, swI_in (by decide) (by decide)]; first | rfl | exact hz.2.1.symm, rfl⟩⟩
      · refine aw_tsIn (off := 109) (t := 128) dX6_of_19 (by decide) (by decide) (by decide) (by decide) ?_
        refine aw_aload (pcn := 130) dX6_of_128 rfl rfl (rfl) ?_
        refine aw_ifnonnull (t := 137) (pcn := 133) dX6_of_130 rfl (by decide) rfl (fun a9 q8 => ?_) (fun q8 => ?_)
        · have hz := hgs.s q8
          subst q8
          have hgm := hz.2
          refine aw_aload (pcn := 139) dX6_of_137 rfl rfl (rf_some _) ?_
          refine aw_getf (pcn := 142) fl_X6_319 dX6_of_139 rfl hgm rfl ?_
          exact aw_iret dX6_of_142 rfl ⟨_, rfl, ⟨by rw [ofT_eq hS hc8 hc0 hst, swI_in (by decide) (by decide)]; first | rfl | exact hz.2.2.symm, rfl⟩⟩
        · have hz := (hI.st hSn).2.2.2.2.1 (hgs.n q8)
          have hz0 := hgs.n q8
          refine aw_iconst (v := -1) (pcn := 134) dX6_of_133 rfl (by decide) ?_
          refine aw_goto (t := 142) dX6_of_134 (by decide) ?_
          exact aw_iret dX6_of_142 rfl ⟨_, rfl, ⟨by rw [ofT_eq hS hc8 hc0 hst, swI_in (by decide) (by decide)]; first | rfl | exact hz.2.2.symm, rfl⟩⟩
      · refine aw_tsIn (off := 124) (t := 143) dX6_of_19 (by decide) (by decide) (by decide) (by decide) ?_
        refine aw_aload (pcn := 145) dX6_of_143 rfl rfl (rfl) ?_
        refine aw_ifnonnull (t := 152) (pcn := 148) dX6_of_145 rfl (by decide) rfl (fun a11 q10 => ?_) (fun q10 => ?_)
        · have hz := hgs.s q10
          subst q10
          have hgm := hz.2
          refine aw_aload (pcn := 154) dX6_of_152 rfl rfl (rf_some _) ?_
          refine aw_getf (pcn := 157) fl_X6_179 dX6_of_154 rfl hgm rfl ?_
          exact aw_iret dX6_of_157 rfl ⟨_, rfl, ⟨by rw [ofT_eq hS hc8 hc0 hst, swI_in (by decide) (by decide)]; first | rfl | exact nI_0.trans hz0.symm, rfl⟩⟩
        · have hz := (hI.st hSn).2.2.2.2.1 (hgs.n q10)
          have hz0 := hgs.n q10
          refine aw_iconst (v := nI 0) (pcn := 149) dX6_of_148 rfl (by decide) ?_
          refine aw_goto (t := 157) dX6_of_149 (by decide) ?_
          exact aw_iret dX6_of_157 rfl ⟨_, rfl, ⟨by rw [ofT_eq hS hc8 hc0 hst, swI_in (by decide) (by decide)]; first | rfl | exact nI_0.trans hz0.symm, rfl⟩⟩
      · refine aw_tsIn (off := 139) (t := 158) dX6_of_19 (by decide) (by decide) (by decide) (by decide) ?_
        refine aw_aload (pcn := 160) dX6_of_158 rfl rfl (rfl) ?_
        refine aw_ifnonnull (t := 167) (pcn := 163) dX6_of_160 rfl (by decide) rfl (fun a13 q12 => ?_) (fun q12 => ?_)
        · have hz := hgs.s q12
          subst q12
          have hgm := hz.2
          refine aw_aload (pcn := 169) dX6_of_167 rfl rfl (rf_some _) ?_
          refine aw_getf (pcn := 172) fl_X6_182 dX6_of_169 rfl hgm rfl ?_
          exact aw_iret dX6_of_172 rfl ⟨_, rfl, ⟨by rw [ofT_eq hS hc8 hc0 hst, swI_in (by decide) (by decide)]; first | rfl | exact nI_0.trans hz.1.symm, rfl⟩⟩
        · have hz := (hI.st hSn).2.2.2.2.1 (hgs.n q12)
          have hz0 := hgs.n q12
          refine aw_iconst (v := nI 0) (pcn := 164) dX6_of_163 rfl (by decide) ?_
          refine aw_goto (t := 172) dX6_of_164 (by decide) ?_
          exact aw_iret dX6_of_172 rfl ⟨_, rfl, ⟨by rw [ofT_eq hS hc8 hc0 hst, swI_in (by decide) (by decide)]; first | rfl | exact nI_0.trans hz.1.symm, rfl⟩⟩

set_option maxHeartbeats 1600000 in
set_option maxRecDepth 20000 in
theorem c_a_share {X : XG} {l : Launch} {Γ : NM} {ow : Nat → Nat × Nat} {h : Hp} {T Tr : TB} {nh : Nat} (hW : WD Γ ow h T Tr nh) {i C n Z hN : Nat} (hI : Iv i T C n Z hN) (s f w : Int32) : AM X l yX6_share cX6_share 5 (some .int) 3 0 0 [.ref (Γ 0 0), .int s, .int f, .int w] h (qi fun r h' => r = shareT T s f w ∧ h' = h) := by
  refine AM.of (by decide +kernel) (by simp [Value.category]) (Nat.le_of_ble_eq_true rfl) ?_
  show AW X l cX6_share RX6 "share" (some .int) 5 3 none _ 0 0 0 [some (.ref (Γ 0 0)), some (.int s), some (.int f), some (.int w), none] [] h
  have h64 := hI.n64
  have h8 := hI.C8
  have h16 := hI.Z16
  have h4 := hI.h4
  refine aw_alo 0 (pcn := 1) rfl dX6_share_0 rfl rfl (rf_some _) ?_
  refine aw_ilo 1 (pcn := 2) rfl dX6_share_1 rfl rfl ?_
  refine aw_Vr (pcn := 5) (c_stateAt hW hI _) mf_X6_stateAt mv_X6_stateAt hW.sc rfl ml_X6_123 rfl (by decide) (by decide) (by decide) (by exact Nat.le_of_ble_eq_true rfl) rfl dX6_share_2 rfl (fun r h2 hq => ?_)
  obtain ⟨hq, hh⟩ := hq
  obtain rfl := hh.symm
  rcases hq with ⟨e0, rfl⟩ | ⟨S, c, hSn, hcC, hc0, rfl, hst, rfl⟩
  · have e1 : isOfT T s f = false := of_no e0 f
    refine aw_astore (pcn := 7) dX6_share_5 rfl (by decide) (rf_none) ?_
    dsimp only [List.set_cons_zero, List.set_cons_succ]
    refine aw_aload (pcn := 9) dX6_share_7 rfl rfl (rf_none) ?_
    refine aw_ifnull (t := 21) (pcn := 12) dX6_share_9 rfl (by decide) (rf_none) (fun q1 => ?_) (fun a2 q1 => by cases q1)
    clear q1
    refine aw_iconst (v := -1) (pcn := 22) dX6_share_21 rfl (by decide) ?_
    exact aw_iret dX6_share_22 rfl ⟨_, rfl, ⟨by unfold shareT; rw [if_pos (Or.inl (by assumption))], rfl⟩⟩
  · have hS : S < 64 := by omega
    have hc8 : c < 8 := by omega
    have vc := hI.vc hcC
    have vs := hI.vs hSn
    refine aw_astore (pcn := 7) dX6_share_5 rfl (by decide) (rf_some _) ?_
    dsimp only [List.set_cons_zero, List.set_cons_succ]
    refine aw_aload (pcn := 9) dX6_share_7 rfl rfl (rf_some _) ?_
    refine aw_ifnull (t := 21) (pcn := 12) dX6_share_9 rfl (by decide) (rf_some _) (fun q3 => by cases q3) (fun a4 q3 => ?_)
    clear q3 a4
    refine aw_aload (pcn := 14) dX6_share_12 rfl rfl (rf_some _) ?_
    refine aw_ilo 2 (pcn := 15) rfl dX6_share_14 rfl rfl ?_
    obtain ⟨gs, hs, hgs⟩ := hW.st (s := S) vs hc8 hc0
    refine aw_Vi (pcn := 18) (c_hasM hW hI hSn hcC hc0 _) mf_X4_hasMember mv_X4_hasMember hs rfl ml_X6_127 rfl (by decide) (by decide) (by decide) (by exact Nat.le_of_ble_eq_true rfl) rfl dX6_share_15 rfl (fun r h2 hq => ?_)
    obtain ⟨rfl, hq⟩ := hq
    obtain rfl := hq.symm
    rw [hI.ofm hSn hcC hc0]
    refine aw_if_neB (t := 23) (pcn := 21) dX6_share_18 rfl (by decide) (fun q5 => ?_) (fun q5 => ?_)
    · obtain ⟨F, hF, rfl⟩ := Iv.oOfP q5
      have ofx := q5
      refine aw_ilo 3 (pcn := 24) rfl dX6_share_23 rfl rfl ?_
      by_cases w0 : w = nI 0
      · subst w
        refine aw_lsw (off := 28) (t := 52) dX6_share_24 (by decide) (by decide) (by decide) ?_
        refine aw_aload (pcn := 54) dX6_share_52 rfl rfl (rf_some _) ?_
        obtain ⟨gs, hs, hgs⟩ := hW.st (s := S) vs hc8 hc0
        refine aw_getf (pcn := 57) fl_X6_80 dX6_share_54 rfl hs rfl ?_
        refine aw_ilo 2 (pcn := 58) rfl dX6_share_57 rfl rfl ?_
        obtain ⟨fs, hsh1, hsh2, hsh3⟩ := hW.sh (s := S) vs
        refine aw_Vi (pcn := 61) (c_get0 hsh1 hsh2 _) mf_X5_get mv_X5_get hsh1 rfl ml_X6_110 rfl (by decide) (by decide) (by decide) (by exact Nat.le_of_ble_eq_true rfl) rfl dX6_share_58 rfl (fun r h2 hq => ?_)
        obtain ⟨rfl, hq⟩ := hq
        obtain rfl := hq.symm
        exact aw_iret dX6_share_61 rfl ⟨_, rfl, ⟨by unfold shareT; rw [if_neg (by rintro (e | e); rw [ofx] at e; cases e; revert e; decide), ix_nI (by omega), ix_nI (by omega)]; rw [if_pos (by decide), sgT_nI hF, hsh3 F hF], rfl⟩⟩
      by_cases w1 : w = nI 1
      · subst w
        refine aw_lsw (off := 38) (t := 62) dX6_share_24 (by decide) (by decide) (by decide) ?_
        refine aw_aload (pcn := 64) dX6_share_62 rfl rfl (rf_some _) ?_
        obtain ⟨gs, hs, hgs⟩ := hW.st (s := S) vs hc8 hc0
        refine aw_getf (pcn := 67) fl_X6_192 dX6_share_64 rfl hs rfl ?_
        refine aw_ilo 2 (pcn := 68) rfl dX6_share_67 rfl rfl ?_
        obtain ⟨fo, hou1, hou2, hou3⟩ := hW.ou (s := S) vs
        refine aw_Vi (pcn := 71) (c_get0 hou1 hou2 _) mf_X5_get mv_X5_get hou1 rfl ml_X6_110 rfl (by decide) (by decide) (by decide) (by exact Nat.le_of_ble_eq_true rfl) rfl dX6_share_68 rfl (fun r h2 hq => ?_)
        obtain ⟨rfl, hq⟩ := hq
        obtain rfl := hq.symm
        exact aw_iret dX6_share_71 rfl ⟨_, rfl, ⟨by unfold shareT; rw [if_neg (by rintro (e | e); rw [ofx] at e; cases e; revert e; decide), ix_nI (by omega), ix_nI (by omega)]; rw [if_neg (by decide), sgT_nI hF, hou3 F hF], rfl⟩⟩
      refine aw_lsw (off := 48) (t := 72) dX6_share_24 (by decide) (by rw [Op.lookupswitch.offset_cons, if_neg (fun e => w0 (Int32.toInt_inj.mp e.symm)), Op.lookupswitch.offset_cons, if_neg (fun e => w1 (Int32.toInt_inj.mp e.symm)), Op.lookupswitch.offset_nil]) (by decide) ?_
      refine aw_iconst (v := -1) (pcn := 73) dX6_share_72 rfl (by decide) ?_
      exact aw_iret dX6_share_73 rfl ⟨_, rfl, ⟨by unfold shareT; rw [if_pos (Or.inr (by cases e : inR w (nI 0) (nI 1) with | false => rfl | true => obtain ⟨K, hK, rfl⟩ := inR_nI (by decide) e; rcases (show K = 0 ∨ K = 1 by omega) with rfl | rfl; exact absurd rfl w0; exact absurd rfl w1))], rfl⟩⟩
    · refine aw_iconst (v := -1) (pcn := 22) dX6_share_21 rfl (by decide) ?_
      exact aw_iret dX6_share_22 rfl ⟨_, rfl, ⟨by unfold shareT; rw [if_pos (Or.inl (by assumption))], rfl⟩⟩

set_option maxHeartbeats 1600000 in
set_option maxRecDepth 20000 in
theorem c_a_locked {X : XG} {l : Launch} {Γ : NM} {ow : Nat → Nat × Nat} {h : Hp} {T Tr : TB} {nh : Nat} (hW : WD Γ ow h T Tr nh) {i C n Z hN : Nat} (hI : Iv i T C n Z hN) (s k w : Int32) : AM X l yX6_locked cX6_locked 6 (some .int) 1 0 0 [.ref (Γ 0 0), .int s, .int k, .int w] h (qi fun r h' => r = lockedT T s k w ∧ h' = h) := by
  refine AM.of (by decide +kernel) (by simp [Value.category]) (Nat.le_of_ble_eq_true rfl) ?_
  show AW X l cX6_locked RX6 "locked" (some .int) 6 1 none _ 0 0 0 [some (.ref (Γ 0 0)), some (.int s), some (.int k), some (.int w), none, none] [] h
  have h64 := hI.n64
  have h8 := hI.C8
  have h16 := hI.Z16
  have h4 := hI.h4
  refine aw_alo 0 (pcn := 1) rfl dX6_locked_0 rfl rfl (rf_some _) ?_
  refine aw_ilo 1 (pcn := 2) rfl dX6_locked_1 rfl rfl ?_
  refine aw_Vr (pcn := 5) (c_stateAt hW hI _) mf_X6_stateAt mv_X6_stateAt hW.sc rfl ml_X6_123 rfl (by decide) (by decide) (by decide) (by exact Nat.le_of_ble_eq_true rfl) rfl dX6_locked_2 rfl (fun r h2 hq => ?_)
  obtain ⟨hq, hh⟩ := hq
  obtain rfl := hh.symm
  rcases hq with ⟨e0, rfl⟩ | ⟨S, c, hSn, hcC, hc0, rfl, hst, rfl⟩
  · refine aw_astore (pcn := 7) dX6_locked_5 rfl (by decide) (rf_none) ?_
    dsimp only [List.set_cons_zero, List.set_cons_succ]
    refine aw_aload (pcn := 9) dX6_locked_7 rfl rfl (rf_none) ?_
    refine aw_ifnonnull (t := 14) (pcn := 12) dX6_locked_9 rfl (by decide) (rf_none) (fun a2 q1 => by cases q1) (fun q1 => ?_)
    clear q1
    refine aw_iconst (v := -1) (pcn := 13) dX6_locked_12 rfl (by decide) ?_
    exact aw_iret dX6_locked_13 rfl ⟨_, rfl, ⟨by unfold lockedT; rw [if_pos (Or.inl (Or.inl e0))], rfl⟩⟩
  · have hS : S < 64 := by omega
    have hc8 : c < 8 := by omega
    have vc := hI.vc hcC
    have vs := hI.vs hSn
    refine aw_astore (pcn := 7) dX6_locked_5 rfl (by decide) (rf_some _) ?_
    dsimp only [List.set_cons_zero, List.set_cons_succ]
    refine aw_aload (pcn := 9) dX6_locked_7 rfl rfl (rf_some _) ?_
    refine aw_ifnonnull (t := 14) (pcn := 12) dX6_locked_9 rfl (by decide) (rf_some _) (fun a4 q3 => ?_) (fun q3 => by cases q3)
    clear q3 a4
    refine aw_aload (pcn := 16) dX6_locked_14 rfl rfl (rf_some _) ?_
    refine aw_ilo 2 (pcn := 17) rfl dX6_locked_16 rfl rfl ?_
    obtain ⟨gs, hs, hgs⟩ := hW.st (s := S) vs hc8 hc0
    refine aw_Vr (pcn := 20) (c_lockAt hW hI hSn hcC hc0 _) mf_X4_lockAt mv_X4_lockAt hs rfl ml_X6_153 rfl (by decide) (by decide) (by decide) (by exact Nat.le_of_ble_eq_true rfl) rfl dX6_locked_17 rfl (fun r h2 hq => ?_)
    obtain ⟨hq, hh⟩ := hq
    obtain rfl := hh.symm
    rcases hq with ⟨e2, rfl⟩ | ⟨K, hK, rfl, hin, hlq⟩
    · refine aw_astore (pcn := 22) dX6_locked_20 rfl (by decide) (rf_none) ?_
      dsimp only [List.set_cons_zero, List.set_cons_succ]
      refine aw_aload (pcn := 24) dX6_locked_22 rfl rfl (rf_none) ?_
      refine aw_ifnonnull (t := 29) (pcn := 27) dX6_locked_24 rfl (by decide) (rf_none) (fun a6 q5 => by cases q5) (fun q5 => ?_)
      clear q5
      refine aw_iconst (v := -1) (pcn := 28) dX6_locked_27 rfl (by decide) ?_
      exact aw_iret dX6_locked_28 rfl ⟨_, rfl, ⟨by unfold lockedT; rw [if_pos (Or.inl (Or.inr (by rw [ix_nI (show S < 2 ^ 31 by omega)]; first | exact hlf | (unfold isLT; rw [show nI 2 = nI 3 - nI 1 by decide, e2, Bool.false_and])))) ], rfl⟩⟩
    · have hK0 := ((hI.st hSn).2.2.1 K hK).1
      refine aw_astore (pcn := 22) dX6_locked_20 rfl (by decide) (rfl) ?_
      dsimp only [List.set_cons_zero, List.set_cons_succ]
      refine aw_aload (pcn := 24) dX6_locked_22 rfl rfl (rfl) ?_
      refine aw_ifnonnull (t := 29) (pcn := 27) dX6_locked_24 rfl (by decide) rfl (fun a8 q7 => ?_) (fun q7 => ?_)
      · have hz := hlq.s q7
        subst q7
        have hlo := hz.2
        have hlt : isLT T S (nI K) = true := by unfold isLT; rw [show nI 2 = nI 3 - nI 1 by decide, hin, ix_nI (by omega), decide_eq_true (lt_z hK0 hz.1), Bool.and_self]
        refine aw_ilo 3 (pcn := 30) rfl dX6_locked_29 rfl rfl ?_
        rcases pk_ix w (n := 5) (by decide) with hsw | hsw | ⟨jj, hj, rfl⟩
        · refine aw_tsOut (t := 94) dX6_locked_30 (Or.inl (ts_lo hsw)) (by decide) ?_
          refine aw_iconst (v := -1) (pcn := 95) dX6_locked_94 rfl (by decide) ?_
          exact aw_iret dX6_locked_95 rfl ⟨_, rfl, ⟨by unfold lockedT; rw [if_pos (Or.inr (inR_lo hsw))], rfl⟩⟩
        · refine aw_tsOut (t := 94) dX6_locked_30 (Or.inr (ts_hi 5 (by decide) hsw)) (by decide) ?_
          refine aw_iconst (v := -1) (pcn := 95) dX6_locked_94 rfl (by decide) ?_
          exact aw_iret dX6_locked_95 rfl ⟨_, rfl, ⟨by unfold lockedT; rw [if_pos (Or.inr (inR_up (N := 4) hsw (by decide) rfl))], rfl⟩⟩
        · rcases (show jj = 0 ∨ jj = 1 ∨ jj = 2 ∨ jj = 3 ∨ jj = 4 by omega) with rfl | rfl | rfl | rfl | rfl
          · refine aw_tsIn (off := 34) (t := 64) dX6_locked_30 (by decide) (by decide) (by decide) (by decide) ?_
            refine aw_aload (pcn := 66) dX6_locked_64 rfl rfl (rf_some _) ?_
            refine aw_getf (pcn := 69) fl_X6_164 dX6_locked_66 rfl hlo rfl ?_
            exact aw_iret dX6_locked_69 rfl ⟨_, rfl, ⟨by unfold lockedT; rw [if_neg (by rintro ((e | e) | e); rw [hst] at e; cases e; rw [ix_nI (show S < 2 ^ 31 by omega), hlt] at e; cases e; revert e; decide), ix_nI (by omega), ix_nI (by omega)]; rw [if_pos (by decide)], rfl⟩⟩
          · refine aw_tsIn (off := 40) (t := 70) dX6_locked_30 (by decide) (by decide) (by decide) (by decide) ?_
            refine aw_aload (pcn := 72) dX6_locked_70 rfl rfl (rf_some _) ?_
            refine aw_getf (pcn := 75) fl_X6_161 dX6_locked_72 rfl hlo rfl ?_
            exact aw_iret dX6_locked_75 rfl ⟨_, rfl, ⟨by unfold lockedT; rw [if_neg (by rintro ((e | e) | e); rw [hst] at e; cases e; rw [ix_nI (show S < 2 ^ 31 by omega), hlt] at e; cases e; revert e; decide), ix_nI (by omega), ix_nI (by omega)]; rw [if_neg (by decide), if_pos (by decide)], rfl⟩⟩
          · refine aw_tsIn (off := 46) (t := 76) dX6_locked_30 (by decide) (by decide) (by decide) (by decide) ?_
            refine aw_aload (pcn := 78) dX6_locked_76 rfl rfl (rf_some _) ?_
            refine aw_getf (pcn := 81) fl_X6_167 dX6_locked_78 rfl hlo rfl ?_
            exact aw_iret dX6_locked_81 rfl ⟨_, rfl, ⟨by unfold lockedT; rw [if_neg (by rintro ((e | e) | e); rw [hst] at e; cases e; rw [ix_nI (show S < 2 ^ 31 by omega), hlt] at e; cases e; revert e; decide), ix_nI (by omega), ix_nI (by omega)]; rw [if_neg (by decide), if_neg (by decide), if_pos (by decide)], rfl⟩⟩
          · refine aw_tsIn (off := 52) (t := 82) dX6_locked_30 (by decide) (by decide) (by decide) (by decide) ?_
            refine aw_aload (pcn := 84) dX6_locked_82 rfl rfl (rf_some _) ?_
            refine aw_getf (pcn := 87) fl_X6_288 dX6_locked_84 rfl hlo rfl ?_
            exact aw_iret dX6_locked_87 rfl ⟨_, rfl, ⟨by unfold lockedT; rw [if_neg (by rintro ((e | e) | e); rw [hst] at e; cases e; rw [ix_nI (show S < 2 ^ 31 by omega), hlt] at e; cases e; revert e; decide), ix_nI (by omega), ix_nI (by omega)]; rw [if_neg (by decide), if_neg (by decide), if_neg (by decide), ix_nI (by decide)], rfl⟩⟩
          · refine aw_tsIn (off := 58) (t := 88) dX6_locked_30 (by decide) (by decide) (by decide) (by decide) ?_
            refine aw_aload (pcn := 90) dX6_locked_88 rfl rfl (rf_some _) ?_
            refine aw_getf (pcn := 93) fl_X6_256 dX6_locked_90 rfl hlo rfl ?_
            exact aw_iret dX6_locked_93 rfl ⟨_, rfl, ⟨by unfold lockedT; rw [if_neg (by rintro ((e | e) | e); rw [hst] at e; cases e; rw [ix_nI (show S < 2 ^ 31 by omega), hlt] at e; cases e; revert e; decide), ix_nI (by omega), ix_nI (by omega)]; rw [if_neg (by decide), if_neg (by decide), if_neg (by decide), ix_nI (by decide)], rfl⟩⟩
      · have hlf : isLT T S (nI K) = false := by
          unfold isLT
          rw [ix_nI (by omega), show T 19 (35 * S + 16 + 5 * K + 0) = 0 from hlq.n q7]
          rw [decide_eq_false (by decide), Bool.and_false]
        refine aw_iconst (v := -1) (pcn := 28) dX6_locked_27 rfl (by decide) ?_
        exact aw_iret dX6_locked_28 rfl ⟨_, rfl, ⟨by unfold lockedT; rw [if_pos (Or.inl (Or.inr (by rw [ix_nI (show S < 2 ^ 31 by omega)]; first | exact hlf | (unfold isLT; rw [show nI 2 = nI 3 - nI 1 by decide, e2, Bool.false_and])))) ], rfl⟩⟩

set_option maxHeartbeats 1600000 in
set_option maxRecDepth 20000 in
theorem c_a_knows {X : XG} {l : Launch} {Γ : NM} {ow : Nat → Nat × Nat} {h : Hp} {T Tr : TB} {nh : Nat} (hW : WD Γ ow h T Tr nh) {i C n Z hN : Nat} (hI : Iv i T C n Z hN) (z : Int32) : AM X l yX6_knows cX6_knows 2 (some .int) 1 0 0 [.ref (Γ 0 0), .int z] h (qi fun r h' => r = knowsT T z ∧ h' = h) := by
  refine AM.of (by decide +kernel) (by simp [Value.category]) (Nat.le_of_ble_eq_true rfl) ?_
  show AW X l cX6_knows RX6 "knows" (some .int) 2 1 none _ 0 0 0 [some (.ref (Γ 0 0)), some (.int z)] [] h
  have h64 := hI.n64
  have h8 := hI.C8
  have h16 := hI.Z16
  have h4 := hI.h4
  refine aw_alo 0 (pcn := 1) rfl dX6_knows_0 rfl rfl (rf_some _) ?_
  refine aw_ilo 1 (pcn := 2) rfl dX6_knows_1 rfl rfl ?_
  refine aw_Vi (pcn := 5) (c_isSecret hW hI _) mf_X6_isSecret mv_X6_isSecret hW.sc rfl ml_X6_136 rfl (by decide) (by decide) (by decide) (by exact Nat.le_of_ble_eq_true rfl) rfl dX6_knows_2 rfl (fun r h2 hq => ?_)
  obtain ⟨rfl, hq⟩ := hq
  obtain rfl := hq.symm
  refine aw_if_eqB (t := 17) (pcn := 8) dX6_knows_5 rfl (by decide) (fun q1 => ?_) (fun q1 => ?_)
  · refine aw_iconst (v := -1) (pcn := 18) dX6_knows_17 rfl (by decide) ?_
    exact aw_iret dX6_knows_18 rfl ⟨_, rfl, ⟨by unfold knowsT; first | (rw [if_pos (by assumption)]; done) | (rw [if_neg (by simp only [isZT] at *; simp [*]), ix_nI (by omega)]), rfl⟩⟩
  · obtain ⟨K, hK, rfl⟩ := oZ hI q1
    refine aw_alo 0 (pcn := 9) rfl dX6_knows_8 rfl rfl (rf_some _) ?_
    refine aw_getf (pcn := 12) fl_X6_28 dX6_knows_9 rfl hW.sc rfl ?_
    refine aw_ilo 1 (pcn := 13) rfl dX6_knows_12 rfl rfl ?_
    refine aw_ialdN (pcn := 14) (by decide) dX6_knows_13 rfl hW.kno (show _ < 16 by omega) ?_
    refine aw_goto (t := 18) dX6_knows_14 (by decide) ?_
    exact aw_iret dX6_knows_18 rfl ⟨_, rfl, ⟨by unfold knowsT; first | (rw [if_pos (by assumption)]; done) | (rw [if_neg (by simp only [isZT] at *; simp [*]), ix_nI (by omega)]), rfl⟩⟩

set_option maxHeartbeats 1600000 in
set_option maxRecDepth 20000 in
theorem c_a_count {X : XG} {l : Launch} {Γ : NM} {ow : Nat → Nat × Nat} {h : Hp} {T Tr : TB} {nh : Nat} (hW : WD Γ ow h T Tr nh) {i C n Z hN : Nat} (hI : Iv i T C n Z hN) (w : Int32) : AM X l yX6_count cX6_count 2 (some .int) 2 0 0 [.ref (Γ 0 0), .int w] h (qi fun r h' => r = countT T C w ∧ h' = h) := by
  refine AM.of (by decide +kernel) (by simp [Value.category]) (Nat.le_of_ble_eq_true rfl) ?_
  show AW X l cX6_count RX6 "count" (some .int) 2 2 none _ 0 0 0 [some (.ref (Γ 0 0)), some (.int w)] [] h
  have h64 := hI.n64
  have h8 := hI.C8
  have h16 := hI.Z16
  have h4 := hI.h4
  refine aw_ilo 1 (pcn := 1) rfl dX6_count_0 rfl rfl ?_
  rcases pk_ix w (n := 7) (by decide) with hsw | hsw | ⟨jj, hj, rfl⟩
  · refine aw_tsOut (t := 79) dX6_count_1 (Or.inl (ts_lo hsw)) (by decide) ?_
    refine aw_iconst (v := -1) (pcn := 80) dX6_count_79 rfl (by decide) ?_
    exact aw_iret dX6_count_80 rfl ⟨_, rfl, ⟨by unfold countT; rw [swI_lo hsw], rfl⟩⟩
  · refine aw_tsOut (t := 79) dX6_count_1 (Or.inr (ts_hi 7 (by decide) hsw)) (by decide) ?_
    refine aw_iconst (v := -1) (pcn := 80) dX6_count_79 rfl (by decide) ?_
    exact aw_iret dX6_count_80 rfl ⟨_, rfl, ⟨by unfold countT; rw [swI_hi hsw], rfl⟩⟩
  · rcases (show jj = 0 ∨ jj = 1 ∨ jj = 2 ∨ jj = 3 ∨ jj = 4 ∨ jj = 5 ∨ jj = 6 by omega) with rfl | rfl | rfl | rfl | rfl | rfl | rfl
    · refine aw_tsIn (off := 43) (t := 44) dX6_count_1 (by decide) (by decide) (by decide) (by decide) ?_
      refine aw_alo 0 (pcn := 45) rfl dX6_count_44 rfl rfl (rf_some _) ?_
      refine aw_getf (pcn := 48) fl_X6_52 dX6_count_45 rfl hW.sc rfl ?_
      exact aw_iret dX6_count_48 rfl ⟨_, rfl, ⟨by unfold countT; rw [swI_in (by decide) (by decide)]; rfl, rfl⟩⟩
    · refine aw_tsIn (off := 48) (t := 49) dX6_count_1 (by decide) (by decide) (by decide) (by decide) ?_
      refine aw_alo 0 (pcn := 50) rfl dX6_count_49 rfl rfl (rf_some _) ?_
      refine aw_getf (pcn := 53) fl_X6_104 dX6_count_50 rfl hW.sc rfl ?_
      exact aw_iret dX6_count_53 rfl ⟨_, rfl, ⟨by unfold countT; rw [swI_in (by decide) (by decide)]; rfl, rfl⟩⟩
    · refine aw_tsIn (off := 53) (t := 54) dX6_count_1 (by decide) (by decide) (by decide) (by decide) ?_
      refine aw_alo 0 (pcn := 55) rfl dX6_count_54 rfl rfl (rf_some _) ?_
      refine aw_getf (pcn := 58) fl_X6_274 dX6_count_55 rfl hW.sc rfl ?_
      exact aw_iret dX6_count_58 rfl ⟨_, rfl, ⟨by unfold countT; rw [swI_in (by decide) (by decide)]; rfl, rfl⟩⟩
    · refine aw_tsIn (off := 58) (t := 59) dX6_count_1 (by decide) (by decide) (by decide) (by decide) ?_
      refine aw_alo 0 (pcn := 60) rfl dX6_count_59 rfl rfl (rf_some _) ?_
      refine aw_getf (pcn := 63) fl_X6_224 dX6_count_60 rfl hW.sc rfl ?_
      exact aw_iret dX6_count_63 rfl ⟨_, rfl, ⟨by unfold countT; rw [swI_in (by decide) (by decide)]; rfl, rfl⟩⟩
    · refine aw_tsIn (off := 63) (t := 64) dX6_count_1 (by decide) (by decide) (by decide) (by decide) ?_
      refine aw_alo 0 (pcn := 65) rfl dX6_count_64 rfl rfl (rf_some _) ?_
      refine aw_getf (pcn := 68) fl_X6_329 dX6_count_65 rfl hW.sc rfl ?_
      exact aw_iret dX6_count_68 rfl ⟨_, rfl, ⟨by unfold countT; rw [swI_in (by decide) (by decide)]; rfl, rfl⟩⟩
    · refine aw_tsIn (off := 68) (t := 69) dX6_count_1 (by decide) (by decide) (by decide) (by decide) ?_
      refine aw_alo 0 (pcn := 70) rfl dX6_count_69 rfl rfl (rf_some _) ?_
      refine aw_getf (pcn := 73) fl_X6_305 dX6_count_70 rfl hW.sc rfl ?_
      exact aw_iret dX6_count_73 rfl ⟨_, rfl, ⟨by unfold countT; rw [swI_in (by decide) (by decide)]; rfl, rfl⟩⟩
    · refine aw_tsIn (off := 73) (t := 74) dX6_count_1 (by decide) (by decide) (by decide) (by decide) ?_
      refine aw_alo 0 (pcn := 75) rfl dX6_count_74 rfl rfl (rf_some _) ?_
      refine aw_Vi (pcn := 78) (c_allThereIs hW hI) mf_X6_allThereIs mv_X6_allThereIs hW.sc rfl ml_X6_369 rfl (by decide) (by decide) (by decide) (by exact Nat.le_of_ble_eq_true rfl) rfl dX6_count_75 rfl (fun r h2 hq => ?_)
      obtain ⟨rfl, hq⟩ := hq
      obtain rfl := hq.symm
      exact aw_iret dX6_count_78 rfl ⟨_, rfl, ⟨by unfold countT; rw [swI_in (by decide) (by decide)]; rfl, rfl⟩⟩
