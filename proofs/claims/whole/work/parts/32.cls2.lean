/-! the class: looking methods -/
theorem inR_no1 {v b : Int32} (h : ¬ 0 ≤ v) : inR v (nI 0) b = false := by
  unfold inR
  rw [nI_0, decide_eq_false h]
  rfl
theorem inR_no2 {v : Int32} {n : Nat} (hn : n < 2 ^ 31) (h : nI n ≤ v) : inR v (nI 0) (nI n - nI 1) = false := by
  cases e : inR v (nI 0) (nI n - nI 1) with
  | false => rfl
  | true =>
    obtain ⟨K, h1, h2⟩ := inR_lt hn e
    rw [h2] at h
    exact absurd h (nI_ge h1 hn)
theorem inR_of {k b : Nat} (hk : k ≤ b) (hb : b < 2 ^ 31) : inR (nI k) (nI 0) (nI b) = true := by
  unfold inR
  rw [decide_eq_true ((nI_leI (by omega) (by omega)).mpr (Nat.zero_le k)), decide_eq_true ((nI_leI (by omega) (by omega)).mpr hk)]
  rfl
theorem inR_yes {k n : Nat} (hk : k < n) (hn : n < 2 ^ 31) : inR (nI k) (nI 0) (nI n - nI 1) = true := by
  rw [pk_sub (by omega)]
  exact inR_of (by omega) (by omega)
theorem Iv.vc {i : Nat} {T : TB} {C n Z hN : Nat} (H : Iv i T C n Z hN) {c : Nat} (hc : c < C) : c < ix (T 5 0) := by
  have := H.C8
  rw [H.c5, ix_nI (by omega)]
  exact hc
theorem Iv.vs {i : Nat} {T : TB} {C n Z hN : Nat} (H : Iv i T C n Z hN) {s : Nat} (hs : s < n) : s < ix (T 18 0) := by
  have := H.n64
  rw [H.n18, ix_nI (by omega)]
  exact hs
theorem Iv.ctOf {i : Nat} {T : TB} {C n Z hN : Nat} (H : Iv i T C n Z hN) {c : Nat} (hc : c < C) : isCT T (nI c) = true := by
  have := H.C8
  unfold isCT
  rw [H.c5]
  exact inR_yes hc (by omega)
theorem Iv.stOf {i : Nat} {T : TB} {C n Z hN : Nat} (H : Iv i T C n Z hN) {s : Nat} (hs : s < n) : isST T (nI s) = true := by
  have := H.n64
  unfold isST
  rw [H.n18]
  exact inR_yes hs (by omega)
theorem Iv.ztOf {i : Nat} {T : TB} {C n Z hN : Nat} (H : Iv i T C n Z hN) {z : Nat} (hz : z < Z) : isZT T (nI z) = true := by
  have := H.Z16
  unfold isZT
  rw [H.z3]
  exact inR_yes hz (by omega)
theorem inB_all : ∀ k : Fin 64, ∀ p : Fin 6, inB (nI k) (nI p) = hasB (nI k) (nI p) := by decide +kernel
theorem inB_has {set : Int32} (h : okI set 64) {P : Nat} (hP : P < 6) : inB set (nI P) = hasB set (nI P) := by
  obtain ⟨k, h1, rfl⟩ := h
  exact inB_all ⟨k, h1⟩ ⟨P, hP⟩
theorem inB_mb {set : Int32} (h : okI set 64) (p : Int32) : inB set p = (isPT p && hasB set p) := by
  cases e : isPT p with
  | true =>
    obtain ⟨P, h1, rfl⟩ := isPT_nI e
    rw [inB_has h h1, Bool.true_and]
  | false =>
    unfold inB
    rcases pk_ix p (n := 6) (by decide) with q | q | ⟨j, q, rfl⟩
    · rw [decide_eq_true q]; rfl
    · rw [decide_eq_false (Int32.not_lt.mpr q), Bool.false_and, Bool.and_false, Bool.false_and]
    · rw [isPT_of q] at e; cases e
theorem Iv.mb {i : Nat} {T : TB} {C n Z hN : Nat} (H : Iv i T C n Z hN) {c : Nat} (hc : c < C) (p : Int32) : inB (T 6 c) p = mbT T c p := inB_mb (H.ch hc).1 p
theorem bc_all : ∀ k : Fin 64, bcT (nI k) = sizeT (nI k) := by decide +kernel
theorem bc_size {x : Int32} (h : okI x 64) : bcT x = sizeT x := by
  obtain ⟨k, h1, rfl⟩ := h
  exact bc_all ⟨k, h1⟩
set_option maxHeartbeats 8000000 in
set_option maxRecDepth 20000 in
theorem c_channelAt {X : XG} {l : Launch} {Γ : NM} {ow : Nat → Nat × Nat} {h : Hp} {T Tr : TB} {nh : Nat} (hW : WD Γ ow h T Tr nh) {i C n Z hN : Nat} (hI : Iv i T C n Z hN) (cc : Int32) : AM X l yX6_channelAt cX6_channelAt 2 (some (.object "StateChannels$Channel")) 0 0 0 [.ref (Γ 0 0), .int cc] h (qr fun r h' => ((isCT T cc = false ∧ r = none) ∨ ∃ c, c < C ∧ cc = nI c ∧ isCT T (nI c) = true ∧ r = some (Γ 7 c)) ∧ h' = h) := by
  refine AM.of (by decide +kernel) (by simp [Value.category]) (Nat.le_of_ble_eq_true rfl) ?_
  show AW X l cX6_channelAt RX6 "channelAt" (some (.object "StateChannels$Channel")) 2 0 none _ 0 0 0 [some (.ref (Γ 0 0)), some (.int cc)] [] h
  have h64 := hI.n64
  have h8 := hI.C8
  have h16 := hI.Z16
  have h4 := hI.h4
  refine aw_ilo 1 (pcn := 1) rfl dX6_channelAt_0 rfl rfl ?_
  refine aw_if_lt (t := 30) (pcn := 4) dX6_channelAt_1 rfl (by decide) (fun q1 => ?_) (fun q1 => ?_)
  · replace q1 := Int32.not_le.mpr q1
    refine aw_null (pcn := 31) dX6_channelAt_30 rfl ?_
    exact aw_aret dX6_channelAt_31 rfl (Or.inl ⟨_, rfl⟩) rf_none ⟨_, rfl, Or.inl ⟨inR_no1 q1, rfl⟩, rfl⟩
  · replace q1 := Int32.not_lt.mp q1
    refine aw_ilo 1 (pcn := 5) rfl dX6_channelAt_4 rfl rfl ?_
    refine aw_alo 0 (pcn := 6) rfl dX6_channelAt_5 rfl rfl (rf_some _) ?_
    refine aw_getf (pcn := 9) fl_X6_52 dX6_channelAt_6 rfl hW.sc rfl ?_
    rw [hI.c5]
    refine aw_icmp_ge (t := 30) (pcn := 12) dX6_channelAt_9 rfl (by decide) (fun q2 => ?_) (fun q2 => ?_)
    · refine aw_null (pcn := 31) dX6_channelAt_30 rfl ?_
      exact aw_aret dX6_channelAt_31 rfl (Or.inl ⟨_, rfl⟩) rf_none ⟨_, rfl, Or.inl ⟨by unfold isCT; rw [hI.c5]; exact inR_no2 (by omega) q2, rfl⟩, rfl⟩
    · obtain ⟨c0, hcC, rfl⟩ := ix_of (n := C) (by omega) q1 q2
      refine aw_ilo 1 (pcn := 13) rfl dX6_channelAt_12 rfl rfl ?_
      refine aw_alo 0 (pcn := 14) rfl dX6_channelAt_13 rfl rfl (rf_some _) ?_
      refine aw_getf (pcn := 17) fl_X6_18 dX6_channelAt_14 rfl hW.sc rfl ?_
      refine aw_alenr (v := nI 8) (pcn := 18) dX6_channelAt_17 rfl hW.chs (by decide) (by decide) ?_
      refine aw_icmp_ge (t := 30) (pcn := 21) dX6_channelAt_18 rfl (by decide) (fun q => absurd q (nI_ge (by omega) (by decide))) (fun _ => ?_)
      refine aw_alo 0 (pcn := 22) rfl dX6_channelAt_21 rfl rfl (rf_some _) ?_
      refine aw_getf (pcn := 25) fl_X6_18 dX6_channelAt_22 rfl hW.sc rfl ?_
      refine aw_ilo 1 (pcn := 26) rfl dX6_channelAt_25 rfl rfl ?_
      refine aw_aaldN (pcn := 27) (by decide) dX6_channelAt_26 rfl hW.chs (by decide) (show _ < 8 by omega) ?_
      refine aw_goto (t := 31) dX6_channelAt_27 (by decide) ?_
      exact aw_aret dX6_channelAt_31 rfl (Or.inl ⟨_, rfl⟩) rfl ⟨_, rfl, Or.inr ⟨c0, hcC, rfl, hI.ctOf hcC, if_pos (hI.vc hcC)⟩, rfl⟩

set_option maxHeartbeats 8000000 in
set_option maxRecDepth 20000 in
theorem c_stateAt {X : XG} {l : Launch} {Γ : NM} {ow : Nat → Nat × Nat} {h : Hp} {T Tr : TB} {nh : Nat} (hW : WD Γ ow h T Tr nh) {i C n Z hN : Nat} (hI : Iv i T C n Z hN) (s : Int32) : AM X l yX6_stateAt cX6_stateAt 2 (some (.object "StateChannels$State")) 0 0 0 [.ref (Γ 0 0), .int s] h (qr fun r h' => ((isST T s = false ∧ r = none) ∨ ∃ S c, S < n ∧ c < C ∧ T 19 (35 * S + 0) = nI c ∧ s = nI S ∧ isST T (nI S) = true ∧ r = some (Γ 8 S)) ∧ h' = h) := by
  refine AM.of (by decide +kernel) (by simp [Value.category]) (Nat.le_of_ble_eq_true rfl) ?_
  show AW X l cX6_stateAt RX6 "stateAt" (some (.object "StateChannels$State")) 2 0 none _ 0 0 0 [some (.ref (Γ 0 0)), some (.int s)] [] h
  have h64 := hI.n64
  have h8 := hI.C8
  have h16 := hI.Z16
  have h4 := hI.h4
  refine aw_ilo 1 (pcn := 1) rfl dX6_stateAt_0 rfl rfl ?_
  refine aw_if_lt (t := 30) (pcn := 4) dX6_stateAt_1 rfl (by decide) (fun q1 => ?_) (fun q1 => ?_)
  · replace q1 := Int32.not_le.mpr q1
    refine aw_null (pcn := 31) dX6_stateAt_30 rfl ?_
    exact aw_aret dX6_stateAt_31 rfl (Or.inl ⟨_, rfl⟩) rf_none ⟨_, rfl, Or.inl ⟨inR_no1 q1, rfl⟩, rfl⟩
  · replace q1 := Int32.not_lt.mp q1
    refine aw_ilo 1 (pcn := 5) rfl dX6_stateAt_4 rfl rfl ?_
    refine aw_alo 0 (pcn := 6) rfl dX6_stateAt_5 rfl rfl (rf_some _) ?_
    refine aw_getf (pcn := 9) fl_X6_104 dX6_stateAt_6 rfl hW.sc rfl ?_
    rw [hI.n18]
    refine aw_icmp_ge (t := 30) (pcn := 12) dX6_stateAt_9 rfl (by decide) (fun q2 => ?_) (fun q2 => ?_)
    · refine aw_null (pcn := 31) dX6_stateAt_30 rfl ?_
      exact aw_aret dX6_stateAt_31 rfl (Or.inl ⟨_, rfl⟩) rf_none ⟨_, rfl, Or.inl ⟨by unfold isST; rw [hI.n18]; exact inR_no2 (by omega) q2, rfl⟩, rfl⟩
    · obtain ⟨S, hSn, rfl⟩ := ix_of (n := n) (by omega) q1 q2
      refine aw_ilo 1 (pcn := 13) rfl dX6_stateAt_12 rfl rfl ?_
      refine aw_alo 0 (pcn := 14) rfl dX6_stateAt_13 rfl rfl (rf_some _) ?_
      refine aw_getf (pcn := 17) fl_X6_24 dX6_stateAt_14 rfl hW.sc rfl ?_
      refine aw_alenr (v := nI 64) (pcn := 18) dX6_stateAt_17 rfl hW.sts (by decide) (by decide) ?_
      refine aw_icmp_ge (t := 30) (pcn := 21) dX6_stateAt_18 rfl (by decide) (fun q => absurd q (nI_ge (by omega) (by decide))) (fun _ => ?_)
      refine aw_alo 0 (pcn := 22) rfl dX6_stateAt_21 rfl rfl (rf_some _) ?_
      refine aw_getf (pcn := 25) fl_X6_24 dX6_stateAt_22 rfl hW.sc rfl ?_
      refine aw_ilo 1 (pcn := 26) rfl dX6_stateAt_25 rfl rfl ?_
      refine aw_aaldN (pcn := 27) (by decide) dX6_stateAt_26 rfl hW.sts (by decide) (show _ < 64 by omega) ?_
      refine aw_goto (t := 31) dX6_stateAt_27 (by decide) ?_
      obtain ⟨c, hcC, hc0⟩ := hI.so hSn
      exact aw_aret dX6_stateAt_31 rfl (Or.inl ⟨_, rfl⟩) rfl ⟨_, rfl, Or.inr ⟨S, c, hSn, hcC, hc0, rfl, hI.stOf hSn, if_pos (hI.vs hSn)⟩, rfl⟩

set_option maxHeartbeats 8000000 in
set_option maxRecDepth 20000 in
theorem c_hasM0 {X : XG} {l : Launch} {Γ : NM} {ow : Nat → Nat × Nat} {h : Hp} {T Tr : TB} {nh : Nat} (hW : WD Γ ow h T Tr nh) {i C n Z hN : Nat} (hI : Iv i T C n Z hN) {c : Nat} (hcC : c < C) (p : Int32) : AM X l yX0_hasMember cX0_hasMember 2 (some .boolean) 1 0 0 [.ref (Γ 7 c), .int p] h (qi fun r h' => r = bI (mbT T c p) ∧ h' = h) := by
  refine AM.of (by decide +kernel) (by simp [Value.category]) (Nat.le_of_ble_eq_true rfl) ?_
  show AW X l cX0_hasMember RX0 "hasMember" (some .boolean) 2 1 none _ 0 0 0 [some (.ref (Γ 7 c)), some (.int p)] [] h
  have h64 := hI.n64
  have h8 := hI.C8
  have h16 := hI.Z16
  have h4 := hI.h4
  have vc := hI.vc hcC
  obtain ⟨g, hc, hg⟩ := hW.ch vc
  refine aw_alo 0 (pcn := 1) rfl dX0_hasMember_0 rfl rfl (rf_some _) ?_
  refine aw_getf (pcn := 4) fl_X0_18 dX0_hasMember_1 rfl hc rfl ?_
  refine aw_ilo 1 (pcn := 5) rfl dX0_hasMember_4 rfl rfl ?_
  refine aw_SNi (pcn := 8) (c_isIn _ _) mf_X6_isIn mv_X6_isIn ml_X0_24 rfl (by decide) (by decide) (by decide) (by exact Nat.le_of_ble_eq_true rfl) rfl dX0_hasMember_5 rfl (fun r h2 hq => ?_)
  obtain ⟨rfl, hq⟩ := hq
  obtain rfl := hq.symm
  exact aw_zret dX0_hasMember_8 rfl (bI_01 _) ⟨_, rfl, ⟨by rw [hI.mb hcC], rfl⟩⟩

set_option maxHeartbeats 8000000 in
set_option maxRecDepth 20000 in
theorem c_hasM {X : XG} {l : Launch} {Γ : NM} {ow : Nat → Nat × Nat} {h : Hp} {T Tr : TB} {nh : Nat} (hW : WD Γ ow h T Tr nh) {i C n Z hN : Nat} (hI : Iv i T C n Z hN) {S c : Nat} (hSn : S < n) (hcC : c < C) (hc0 : T 19 (35 * S + 0) = nI c) (p : Int32) : AM X l yX4_hasMember cX4_hasMember 2 (some .boolean) 2 0 0 [.ref (Γ 8 S), .int p] h (qi fun r h' => r = bI (mbT T c p) ∧ h' = h) := by
  refine AM.of (by decide +kernel) (by simp [Value.category]) (Nat.le_of_ble_eq_true rfl) ?_
  show AW X l cX4_hasMember RX4 "hasMember" (some .boolean) 2 2 none _ 0 0 0 [some (.ref (Γ 8 S)), some (.int p)] [] h
  have h64 := hI.n64
  have h8 := hI.C8
  have h16 := hI.Z16
  have h4 := hI.h4
  have hc8 : c < 8 := by omega
  have vc := hI.vc hcC
  have vs := hI.vs hSn
  obtain ⟨g, hc, hg⟩ := hW.ch vc
  obtain ⟨gs, hs, hgs⟩ := hW.st vs hc8 hc0
  refine aw_alo 0 (pcn := 1) rfl dX4_hasMember_0 rfl rfl (rf_some _) ?_
  refine aw_getf (pcn := 4) fl_X4_31 dX4_hasMember_1 rfl hs rfl ?_
  refine aw_ilo 1 (pcn := 5) rfl dX4_hasMember_4 rfl rfl ?_
  refine aw_Vi (pcn := 8) (c_hasM0 hW hI hcC _) mf_X0_hasMember mv_X0_hasMember hc rfl ml_X4_54 rfl (by decide) (by decide) (by decide) (by exact Nat.le_of_ble_eq_true rfl) rfl dX4_hasMember_5 rfl (fun r h2 hq => ?_)
  obtain ⟨rfl, hq⟩ := hq
  obtain rfl := hq.symm
  exact aw_zret dX4_hasMember_8 rfl (bI_01 _) ⟨_, rfl, ⟨rfl, rfl⟩⟩

set_option maxHeartbeats 8000000 in
set_option maxRecDepth 20000 in
theorem c_isFixed {X : XG} {l : Launch} {Γ : NM} {ow : Nat → Nat × Nat} {h : Hp} {T Tr : TB} {nh : Nat} (hW : WD Γ ow h T Tr nh) {i C n Z hN : Nat} (hI : Iv i T C n Z hN) {S c : Nat} (hSn : S < n) (hcC : c < C) (hc0 : T 19 (35 * S + 0) = nI c) : AM X l yX4_isFixed cX4_isFixed 1 (some .boolean) 0 0 0 [.ref (Γ 8 S)] h (qi fun r h' => r = bI (fxT T c S) ∧ h' = h) := by
  refine AM.of (by decide +kernel) (by simp [Value.category]) (Nat.le_of_ble_eq_true rfl) ?_
  show AW X l cX4_isFixed RX4 "isFixed" (some .boolean) 1 0 none _ 0 0 0 [some (.ref (Γ 8 S))] [] h
  have h64 := hI.n64
  have h8 := hI.C8
  have h16 := hI.Z16
  have h4 := hI.h4
  have hc8 : c < 8 := by omega
  have vc := hI.vc hcC
  have vs := hI.vs hSn
  obtain ⟨g, hc, hg⟩ := hW.ch vc
  obtain ⟨gs, hs, hgs⟩ := hW.st vs hc8 hc0
  refine aw_alo 0 (pcn := 1) rfl dX4_isFixed_0 rfl rfl (rf_some _) ?_
  refine aw_getf (pcn := 4) fl_X4_31 dX4_isFixed_1 rfl hs rfl ?_
  refine aw_getf (pcn := 7) fl_X4_60 dX4_isFixed_4 rfl hc rfl ?_
  refine aw_iconst (v := nI 3) (pcn := 8) dX4_isFixed_7 rfl (by decide) ?_
  refine aw_icmp_eq (t := 18) (pcn := 11) dX4_isFixed_8 rfl (by decide) (fun q1 => ?_) (fun q1 => ?_)
  · refine aw_iconst (v := nI 1) (pcn := 19) dX4_isFixed_18 rfl (by decide) ?_
    refine aw_goto (t := 23) dX4_isFixed_19 (by decide) ?_
    exact aw_zret dX4_isFixed_23 rfl (by decide) ⟨_, rfl, ⟨by simp only [bI, fxT, q1, Bool.false_eq_true, Bool.true_eq_false, reduceCtorEq, if_true, if_false, decide_true, decide_false, Bool.and_true, Bool.and_false, Bool.true_and, Bool.false_and, Bool.or_true, Bool.or_false, Bool.true_or, Bool.false_or, Bool.not_true, Bool.not_false, ← Int32.not_le, not_true_eq_false, not_false_eq_true, nI_0]; try exact nI_one, rfl⟩⟩
  · refine aw_alo 0 (pcn := 12) rfl dX4_isFixed_11 rfl rfl (rf_some _) ?_
    refine aw_getf (pcn := 15) fl_X4_63 dX4_isFixed_12 rfl hs rfl ?_
    refine aw_if_eq (t := 22) (pcn := 18) dX4_isFixed_15 rfl (by decide) (fun q2 => ?_) (fun q2 => ?_)
    · refine aw_iconst (v := nI 0) (pcn := 23) dX4_isFixed_22 rfl (by decide) ?_
      exact aw_zret dX4_isFixed_23 rfl (by decide) ⟨_, rfl, ⟨by simp only [bI, fxT, q1, q2, Bool.false_eq_true, Bool.true_eq_false, reduceCtorEq, if_true, if_false, decide_true, decide_false, Bool.and_true, Bool.and_false, Bool.true_and, Bool.false_and, Bool.or_true, Bool.or_false, Bool.true_or, Bool.false_or, Bool.not_true, Bool.not_false, ← Int32.not_le, not_true_eq_false, not_false_eq_true, nI_0]; try exact nI_one, rfl⟩⟩
    · refine aw_iconst (v := nI 1) (pcn := 19) dX4_isFixed_18 rfl (by decide) ?_
      refine aw_goto (t := 23) dX4_isFixed_19 (by decide) ?_
      exact aw_zret dX4_isFixed_23 rfl (by decide) ⟨_, rfl, ⟨by simp only [bI, fxT, q1, q2, Bool.false_eq_true, Bool.true_eq_false, reduceCtorEq, if_true, if_false, decide_true, decide_false, Bool.and_true, Bool.and_false, Bool.true_and, Bool.false_and, Bool.or_true, Bool.or_false, Bool.true_or, Bool.false_or, Bool.not_true, Bool.not_false, ← Int32.not_le, not_true_eq_false, not_false_eq_true, nI_0]; try exact nI_one, rfl⟩⟩

theorem GmOK.n {h : Hp} {g : Option Nat} {a b c d : Int32} (H : GmOK h g a b c d) (hg : g = none) : a = 0 := by
  by_cases e : a = 0
  · exact e
  · obtain ⟨x, h1, _⟩ := H.2 e
    rw [hg] at h1
    cases h1
theorem GmOK.s {h : Hp} {g : Option Nat} {a b c d : Int32} (H : GmOK h g a b c d) {x : Nat} (hg : g = some x) : a ≠ 0 ∧ h x = some (ob 1 [.int c, .int d, .int a, .int b]) := by
  by_cases e : a = 0
  · rw [H.1 e] at hg; cases hg
  · obtain ⟨y, h1, h2⟩ := H.2 e
    rw [hg] at h1
    cases h1
    exact ⟨e, h2⟩
theorem LkOK.n {h : Hp} {g : Option Nat} {a b c d e : Int32} (H : LkOK h g a b c d e) (hg : g = none) : a = 0 := by
  by_cases q : a = 0
  · exact q
  · obtain ⟨x, h1, _⟩ := H.2 q
    rw [hg] at h1
    cases h1
theorem LkOK.s {h : Hp} {g : Option Nat} {a b c d e : Int32} (H : LkOK h g a b c d e) {x : Nat} (hg : g = some x) : a ≠ 0 ∧ h x = some (ob 3 [.int b, .int c, .int a, .int d, .int e]) := by
  by_cases q : a = 0
  · rw [H.1 q] at hg; cases hg
  · obtain ⟨y, h1, h2⟩ := H.2 q
    rw [hg] at h1
    cases h1
    exact ⟨q, h2⟩
set_option maxHeartbeats 8000000 in
set_option maxRecDepth 20000 in
theorem c_wholeR {X : XG} {l : Launch} {Γ : NM} {ow : Nat → Nat × Nat} {h : Hp} {T Tr : TB} {nh : Nat} (hW : WD Γ ow h T Tr nh) {S c : Nat} (vs : S < ix (T 18 0)) (hc8 : c < 8) (vc : c < ix (T 5 0)) (hc0 : T 19 (35 * S + 0) = nI c) : AM X l yX4_whole cX4_whole 6 (some .int) 1 0 0 [.ref (Γ 8 S)] h (qi fun r h' => r = wholeT T S ∧ h' = h) := by
  refine AM.of (by decide +kernel) (by simp [Value.category]) (Nat.le_of_ble_eq_true rfl) ?_
  show AW X l cX4_whole RX4 "whole" (some .int) 6 1 none _ 0 0 0 [some (.ref (Γ 8 S)), none, none, none, none, none] [] h
  obtain ⟨g, hc, hg⟩ := hW.ch vc
  obtain ⟨gs, hs, hgs⟩ := hW.st vs hc8 hc0
  obtain ⟨fs, hsh1, hsh2, hsh3⟩ := hW.sh vs
  obtain ⟨fl, hl1, hl2⟩ := hW.lk vs
  refine aw_alo 0 (pcn := 1) rfl dX4_whole_0 rfl rfl (rf_some _) ?_
  refine aw_getf (pcn := 4) fl_X4_12 dX4_whole_1 rfl hs rfl ?_
  refine aw_Vi (pcn := 7) (c_total0 hsh1 hsh2) mf_X5_total mv_X5_total hsh1 rfl ml_X4_76 rfl (by decide) (by decide) (by decide) (by exact Nat.le_of_ble_eq_true rfl) rfl dX4_whole_4 rfl (fun r h2 hq => ?_)
  obtain ⟨rfl, hq⟩ := hq
  obtain rfl := hq.symm
  have J : AW X l cX4_whole RX4 "whole" (some .int) 6 1 none (qi fun r h' => r = wholeT T S ∧ h' = h) 0 0 25 [some (.ref (Γ 8 S)), none, none, none, none, none] [.int (T 19 (35 * S + 31)), .int (nI 0 + fs 0 + fs 1 + fs 2 + fs 3 + fs 4 + fs 5)] h := by
    refine aw_iadd (pcn := 26) dX4_whole_25 rfl ?_
    refine aw_ist 1 (pcn := 27) rfl dX4_whole_26 rfl (by decide) ?_
    dsimp only [List.set_cons_zero, List.set_cons_succ]
    refine aw_alo 0 (pcn := 28) rfl dX4_whole_27 rfl rfl (rf_some _) ?_
    refine aw_getf (pcn := 31) fl_X4_23 dX4_whole_28 rfl hs rfl ?_
    refine aw_ast 2 (pcn := 32) rfl dX4_whole_31 rfl (by decide) (rf_some _) ?_
    dsimp only [List.set_cons_zero, List.set_cons_succ]
    refine aw_alo 2 (pcn := 33) rfl dX4_whole_32 rfl rfl (rf_some _) ?_
    refine aw_alenr (v := nI 3) (pcn := 34) dX4_whole_33 rfl hl1 (by decide) (by decide) ?_
    refine aw_ist 3 (pcn := 35) rfl dX4_whole_34 rfl (by decide) ?_
    dsimp only [List.set_cons_zero, List.set_cons_succ]
    refine aw_iconst (v := nI 0) (pcn := 36) dX4_whole_35 rfl (by decide) ?_
    refine aw_istore (pcn := 38) dX4_whole_36 rfl (by decide) ?_
    dsimp only [List.set_cons_zero, List.set_cons_succ]
    have body : ∀ (k : Nat), k < 3 → ∀ (x : Int32), (AW X l cX4_whole RX4 "whole" (some .int) 6 1 none (qi fun r h' => r = wholeT T S ∧ h' = h) 0 0 38 [some (.ref (Γ 8 S)), some (.int (x + lkT T S k 0)), some (.ref (Γ 13 S)), some (.int (nI 3)), some (.int (nI (k + 1))), none] [] h) → AW X l cX4_whole RX4 "whole" (some .int) 6 1 none (qi fun r h' => r = wholeT T S ∧ h' = h) 0 0 38 [some (.ref (Γ 8 S)), some (.int (x)), some (.ref (Γ 13 S)), some (.int (nI 3)), some (.int (nI (k))), none] [] h := by
      intro k hk x kk
      refine aw_iload (pcn := 40) dX4_whole_38 rfl rfl ?_
      refine aw_ilo 3 (pcn := 41) rfl dX4_whole_40 rfl rfl ?_
      refine aw_icmp_ge (t := 73) (pcn := 44) dX4_whole_41 rfl (by decide) (fun q => absurd q (nI_ge hk (by decide))) (fun _ => ?_)
      refine aw_alo 2 (pcn := 45) rfl dX4_whole_44 rfl rfl (rf_some _) ?_
      refine aw_iload (pcn := 47) dX4_whole_45 rfl rfl ?_
      refine aw_aaldN (pcn := 48) (by decide) dX4_whole_47 rfl hl1 (by decide) (show _ < 3 by omega) ?_
      refine aw_astore (pcn := 50) dX4_whole_48 rfl (by decide) (rfl) ?_
      dsimp only [List.set_cons_zero, List.set_cons_succ]
      refine aw_ilo 1 (pcn := 51) rfl dX4_whole_50 rfl rfl ?_
      refine aw_aload (pcn := 53) dX4_whole_51 rfl rfl (rfl) ?_
      refine aw_ifnonnull (t := 60) (pcn := 56) dX4_whole_53 rfl (by decide) rfl (fun a2 q1 => ?_) (fun q1 => ?_)
      · have hz := (hl2 k hk).s q1
        rw [q1]
        refine aw_aload (pcn := 62) dX4_whole_60 rfl rfl (rf_some _) ?_
        refine aw_getf (pcn := 65) fl_X4_84 dX4_whole_62 rfl hz.2 rfl ?_
        refine aw_iadd (pcn := 66) dX4_whole_65 rfl ?_
        refine aw_ist 1 (pcn := 67) rfl dX4_whole_66 rfl (by decide) ?_
        dsimp only [List.set_cons_zero, List.set_cons_succ]
        refine aw_iincN (pcn := 70) dX4_whole_67 rfl (by decide) rfl ?_
        dsimp only [List.set_cons_zero, List.set_cons_succ]
        refine aw_goto (t := 38) dX4_whole_70 (by decide) ?_
        refine AW.forget 5 ?_
        dsimp only [List.set_cons_zero, List.set_cons_succ]
        exact kk
      · have hz := (hl2 k hk).n q1
        rw [hz] at kk
        refine aw_iconst (v := nI 0) (pcn := 57) dX4_whole_56 rfl (by decide) ?_
        refine aw_goto (t := 65) dX4_whole_57 (by decide) ?_
        rw [nI_0]
        refine aw_iadd (pcn := 66) dX4_whole_65 rfl ?_
        refine aw_ist 1 (pcn := 67) rfl dX4_whole_66 rfl (by decide) ?_
        dsimp only [List.set_cons_zero, List.set_cons_succ]
        refine aw_iincN (pcn := 70) dX4_whole_67 rfl (by decide) rfl ?_
        dsimp only [List.set_cons_zero, List.set_cons_succ]
        refine aw_goto (t := 38) dX4_whole_70 (by decide) ?_
        refine AW.forget 5 ?_
        dsimp only [List.set_cons_zero, List.set_cons_succ]
        exact kk
    refine body 0 (by decide) _ ?_
    refine body 1 (by decide) _ ?_
    refine body 2 (by decide) _ ?_
    refine aw_iload (pcn := 40) dX4_whole_38 rfl rfl ?_
    refine aw_ilo 3 (pcn := 41) rfl dX4_whole_40 rfl rfl ?_
    refine aw_icmp_ge (t := 73) (pcn := 44) dX4_whole_41 rfl (by decide) (fun q3 => ?_) (fun q3 => absurd (by decide) q3)
    refine aw_ilo 1 (pcn := 74) rfl dX4_whole_73 rfl rfl ?_
    exact aw_iret dX4_whole_74 rfl ⟨_, rfl, ⟨by unfold wholeT; rw [hsh3 0 (by decide), hsh3 1 (by decide), hsh3 2 (by decide), hsh3 3 (by decide), hsh3 4 (by decide), hsh3 5 (by decide)]; unfold lkT; rw [nI_0, Int32.zero_add]; ac_rfl, rfl⟩⟩
  refine aw_alo 0 (pcn := 8) rfl dX4_whole_7 rfl rfl (rf_some _) ?_
  refine aw_getf (pcn := 11) fl_X4_50 dX4_whole_8 rfl hs rfl ?_
  refine aw_ifnonnull (t := 18) (pcn := 14) dX4_whole_11 rfl (by decide) rfl (fun a5 q4 => ?_) (fun q4 => ?_)
  · have hz := hgs.s q4
    subst q4
    refine aw_alo 0 (pcn := 19) rfl dX4_whole_18 rfl rfl (rf_some _) ?_
    refine aw_getf (pcn := 22) fl_X4_50 dX4_whole_19 rfl hs rfl ?_
    refine aw_getf (pcn := 25) fl_X4_79 dX4_whole_22 rfl hz.2 rfl ?_
    exact J
  · have hz := hgs.n q4
    refine aw_iconst (v := nI 0) (pcn := 15) dX4_whole_14 rfl (by decide) ?_
    refine aw_goto (t := 25) dX4_whole_15 (by decide) ?_
    rw [hz, ← nI_0] at J
    exact J

set_option maxHeartbeats 8000000 in
set_option maxRecDepth 20000 in
theorem c_doesCountR {X : XG} {l : Launch} {Γ : NM} {ow : Nat → Nat × Nat} {h : Hp} {T Tr : TB} {nh : Nat} (hW : WD Γ ow h T Tr nh) {S c : Nat} (vs : S < ix (T 18 0)) (hc8 : c < 8) (vc : c < ix (T 5 0)) (hc0 : T 19 (35 * S + 0) = nI c) : AM X l yX4_doesCount cX4_doesCount 1 (some .boolean) 2 0 0 [.ref (Γ 8 S)] h (qi fun r h' => r = bI (cnt T c S) ∧ h' = h) := by
  refine AM.of (by decide +kernel) (by simp [Value.category]) (Nat.le_of_ble_eq_true rfl) ?_
  show AW X l cX4_doesCount RX4 "doesCount" (some .boolean) 1 2 none _ 0 0 0 [some (.ref (Γ 8 S))] [] h
  obtain ⟨g, hc, hg⟩ := hW.ch vc
  obtain ⟨gs, hs, hgs⟩ := hW.st vs hc8 hc0
  refine aw_alo 0 (pcn := 1) rfl dX4_doesCount_0 rfl rfl (rf_some _) ?_
  refine aw_getf (pcn := 4) fl_X4_31 dX4_doesCount_1 rfl hs rfl ?_
  refine aw_getf (pcn := 7) fl_X4_60 dX4_doesCount_4 rfl hc rfl ?_
  refine aw_iconst (v := nI 3) (pcn := 8) dX4_doesCount_7 rfl (by decide) ?_
  refine aw_icmp_eq (t := 43) (pcn := 11) dX4_doesCount_8 rfl (by decide) (fun q1 => ?_) (fun q1 => ?_)
  · refine aw_iconst (v := nI 0) (pcn := 44) dX4_doesCount_43 rfl (by decide) ?_
    exact aw_zret dX4_doesCount_44 rfl (by decide) ⟨_, rfl, ⟨by simp only [bI, cnt, q1, Bool.false_eq_true, Bool.true_eq_false, reduceCtorEq, if_true, if_false, decide_true, decide_false, Bool.and_true, Bool.and_false, Bool.true_and, Bool.false_and, Bool.or_true, Bool.or_false, Bool.true_or, Bool.false_or, Bool.not_true, Bool.not_false, ← Int32.not_le, not_true_eq_false, not_false_eq_true, nI_0]; try exact nI_one, rfl⟩⟩
  · refine aw_alo 0 (pcn := 12) rfl dX4_doesCount_11 rfl rfl (rf_some _) ?_
    refine aw_getf (pcn := 15) fl_X4_63 dX4_doesCount_12 rfl hs rfl ?_
    refine aw_alo 0 (pcn := 16) rfl dX4_doesCount_15 rfl rfl (rf_some _) ?_
    refine aw_getf (pcn := 19) fl_X4_31 dX4_doesCount_16 rfl hs rfl ?_
    refine aw_getf (pcn := 22) fl_X4_66 dX4_doesCount_19 rfl hc rfl ?_
    refine aw_icmp_ne (t := 43) (pcn := 25) dX4_doesCount_22 rfl (by decide) (fun q2 => ?_) (fun q2 => ?_)
    · refine aw_iconst (v := nI 0) (pcn := 44) dX4_doesCount_43 rfl (by decide) ?_
      exact aw_zret dX4_doesCount_44 rfl (by decide) ⟨_, rfl, ⟨by simp only [bI, cnt, q1, q2, Bool.false_eq_true, Bool.true_eq_false, reduceCtorEq, if_true, if_false, decide_true, decide_false, Bool.and_true, Bool.and_false, Bool.true_and, Bool.false_and, Bool.or_true, Bool.or_false, Bool.true_or, Bool.false_or, Bool.not_true, Bool.not_false, ← Int32.not_le, not_true_eq_false, not_false_eq_true, nI_0]; try exact nI_one, rfl⟩⟩
    · refine aw_alo 0 (pcn := 26) rfl dX4_doesCount_25 rfl rfl (rf_some _) ?_
      refine aw_Vi (pcn := 29) (c_wholeR hW vs hc8 vc hc0) mf_X4_whole mv_X4_whole hs rfl ml_X4_69 rfl (by decide) (by decide) (by decide) (by exact Nat.le_of_ble_eq_true rfl) rfl dX4_doesCount_26 rfl (fun r h2 hq => ?_)
      obtain ⟨rfl, hq⟩ := hq
      obtain rfl := hq.symm
      refine aw_alo 0 (pcn := 30) rfl dX4_doesCount_29 rfl rfl (rf_some _) ?_
      refine aw_getf (pcn := 33) fl_X4_31 dX4_doesCount_30 rfl hs rfl ?_
      refine aw_getf (pcn := 36) fl_X4_73 dX4_doesCount_33 rfl hc rfl ?_
      refine aw_icmp_ne (t := 43) (pcn := 39) dX4_doesCount_36 rfl (by decide) (fun q3 => ?_) (fun q3 => ?_)
      · refine aw_iconst (v := nI 0) (pcn := 44) dX4_doesCount_43 rfl (by decide) ?_
        exact aw_zret dX4_doesCount_44 rfl (by decide) ⟨_, rfl, ⟨by simp only [bI, cnt, q1, q2, q3, Bool.false_eq_true, Bool.true_eq_false, reduceCtorEq, if_true, if_false, decide_true, decide_false, Bool.and_true, Bool.and_false, Bool.true_and, Bool.false_and, Bool.or_true, Bool.or_false, Bool.true_or, Bool.false_or, Bool.not_true, Bool.not_false, ← Int32.not_le, not_true_eq_false, not_false_eq_true, nI_0]; try exact nI_one, rfl⟩⟩
      · refine aw_iconst (v := nI 1) (pcn := 40) dX4_doesCount_39 rfl (by decide) ?_
        refine aw_goto (t := 44) dX4_doesCount_40 (by decide) ?_
        exact aw_zret dX4_doesCount_44 rfl (by decide) ⟨_, rfl, ⟨by simp only [bI, cnt, q1, q2, q3, Bool.false_eq_true, Bool.true_eq_false, reduceCtorEq, if_true, if_false, decide_true, decide_false, Bool.and_true, Bool.and_false, Bool.true_and, Bool.false_and, Bool.or_true, Bool.or_false, Bool.true_or, Bool.false_or, Bool.not_true, Bool.not_false, ← Int32.not_le, not_true_eq_false, not_false_eq_true, nI_0]; try exact nI_one, rfl⟩⟩

theorem c_whole {X : XG} {l : Launch} {Γ : NM} {ow : Nat → Nat × Nat} {h : Hp} {T Tr : TB} {nh : Nat} (hW : WD Γ ow h T Tr nh) {i C n Z hN : Nat} (hI : Iv i T C n Z hN) {S c : Nat} (hSn : S < n) (hcC : c < C) (hc0 : T 19 (35 * S + 0) = nI c) : AM X l yX4_whole cX4_whole 6 (some .int) 1 0 0 [.ref (Γ 8 S)] h (qi fun r h' => r = wholeT T S ∧ h' = h) := by
  have := hI.C8
  exact c_wholeR hW (hI.vs hSn) (by omega) (hI.vc hcC) hc0
theorem c_doesCount {X : XG} {l : Launch} {Γ : NM} {ow : Nat → Nat × Nat} {h : Hp} {T Tr : TB} {nh : Nat} (hW : WD Γ ow h T Tr nh) {i C n Z hN : Nat} (hI : Iv i T C n Z hN) {S c : Nat} (hSn : S < n) (hcC : c < C) (hc0 : T 19 (35 * S + 0) = nI c) : AM X l yX4_doesCount cX4_doesCount 1 (some .boolean) 2 0 0 [.ref (Γ 8 S)] h (qi fun r h' => r = bI (cnt T c S) ∧ h' = h) := by
  have := hI.C8
  exact c_doesCountR hW (hI.vs hSn) (by omega) (hI.vc hcC) hc0
set_option maxHeartbeats 8000000 in
set_option maxRecDepth 20000 in
theorem c_freeOf {X : XG} {l : Launch} {Γ : NM} {ow : Nat → Nat × Nat} {h : Hp} {T Tr : TB} {nh : Nat} (hW : WD Γ ow h T Tr nh) {i C n Z hN : Nat} (hI : Iv i T C n Z hN) {S c : Nat} (hSn : S < n) (hcC : c < C) (hc0 : T 19 (35 * S + 0) = nI c) {P : Nat} (hP : P < 6) : AM X l yX4_freeOf cX4_freeOf 2 (some .int) 1 0 0 [.ref (Γ 8 S), .int (nI P)] h (qi fun r h' => r = frT T S P ∧ h' = h) := by
  refine AM.of (by decide +kernel) (by simp [Value.category]) (Nat.le_of_ble_eq_true rfl) ?_
  show AW X l cX4_freeOf RX4 "freeOf" (some .int) 2 1 none _ 0 0 0 [some (.ref (Γ 8 S)), some (.int (nI P))] [] h
  have h64 := hI.n64
  have h8 := hI.C8
  have h16 := hI.Z16
  have h4 := hI.h4
  have hc8 : c < 8 := by omega
  have vc := hI.vc hcC
  have vs := hI.vs hSn
  obtain ⟨g, hc, hg⟩ := hW.ch vc
  obtain ⟨gs, hs, hgs⟩ := hW.st vs hc8 hc0
  obtain ⟨fs, hsh1, hsh2, hsh3⟩ := hW.sh vs
  obtain ⟨fo, hou1, hou2, hou3⟩ := hW.ou vs
  refine aw_alo 0 (pcn := 1) rfl dX4_freeOf_0 rfl rfl (rf_some _) ?_
  refine aw_getf (pcn := 4) fl_X4_12 dX4_freeOf_1 rfl hs rfl ?_
  refine aw_ilo 1 (pcn := 5) rfl dX4_freeOf_4 rfl rfl ?_
  refine aw_Vi (pcn := 8) (c_get0 hsh1 hsh2 _) mf_X5_get mv_X5_get hsh1 rfl ml_X4_38 rfl (by decide) (by decide) (by decide) (by exact Nat.le_of_ble_eq_true rfl) rfl dX4_freeOf_5 rfl (fun r h2 hq => ?_)
  obtain ⟨rfl, hq⟩ := hq
  obtain rfl := hq.symm
  refine aw_alo 0 (pcn := 9) rfl dX4_freeOf_8 rfl rfl (rf_some _) ?_
  refine aw_getf (pcn := 12) fl_X4_18 dX4_freeOf_9 rfl hs rfl ?_
  refine aw_ilo 1 (pcn := 13) rfl dX4_freeOf_12 rfl rfl ?_
  refine aw_Vi (pcn := 16) (c_get0 hou1 hou2 _) mf_X5_get mv_X5_get hou1 rfl ml_X4_38 rfl (by decide) (by decide) (by decide) (by exact Nat.le_of_ble_eq_true rfl) rfl dX4_freeOf_13 rfl (fun r h2 hq => ?_)
  obtain ⟨rfl, hq⟩ := hq
  obtain rfl := hq.symm
  refine aw_isub (pcn := 17) dX4_freeOf_16 rfl ?_
  exact aw_iret dX4_freeOf_17 rfl ⟨_, rfl, ⟨by rw [sgT_nI hP, sgT_nI hP, hsh3 P hP, hou3 P hP]; rfl, rfl⟩⟩

set_option maxHeartbeats 8000000 in
set_option maxRecDepth 20000 in
theorem c_hasOut {X : XG} {l : Launch} {Γ : NM} {ow : Nat → Nat × Nat} {h : Hp} {T Tr : TB} {nh : Nat} (hW : WD Γ ow h T Tr nh) {i C n Z hN : Nat} (hI : Iv i T C n Z hN) {S c : Nat} (hSn : S < n) (hcC : c < C) (hc0 : T 19 (35 * S + 0) = nI c) : AM X l yX4_hasOut cX4_hasOut 1 (some .boolean) 1 0 0 [.ref (Γ 8 S)] h (qi fun r h' => r = bI (decide (0 < outT T S)) ∧ h' = h) := by
  refine AM.of (by decide +kernel) (by simp [Value.category]) (Nat.le_of_ble_eq_true rfl) ?_
  show AW X l cX4_hasOut RX4 "hasOut" (some .boolean) 1 1 none _ 0 0 0 [some (.ref (Γ 8 S))] [] h
  have h64 := hI.n64
  have h8 := hI.C8
  have h16 := hI.Z16
  have h4 := hI.h4
  have hc8 : c < 8 := by omega
  have vc := hI.vc hcC
  have vs := hI.vs hSn
  obtain ⟨g, hc, hg⟩ := hW.ch vc
  obtain ⟨gs, hs, hgs⟩ := hW.st vs hc8 hc0
  obtain ⟨fo, hou1, hou2, hou3⟩ := hW.ou vs
  refine aw_alo 0 (pcn := 1) rfl dX4_hasOut_0 rfl rfl (rf_some _) ?_
  refine aw_getf (pcn := 4) fl_X4_18 dX4_hasOut_1 rfl hs rfl ?_
  refine aw_Vi (pcn := 7) (c_total0 hou1 hou2) mf_X5_total mv_X5_total hou1 rfl ml_X4_76 rfl (by decide) (by decide) (by decide) (by exact Nat.le_of_ble_eq_true rfl) rfl dX4_hasOut_4 rfl (fun r h2 hq => ?_)
  obtain ⟨rfl, hq⟩ := hq
  obtain rfl := hq.symm
  rw [hou3 0 (by decide), hou3 1 (by decide), hou3 2 (by decide), hou3 3 (by decide), hou3 4 (by decide), hou3 5 (by decide), show nI 0 + T 19 (35 * S + 10 + 0) + T 19 (35 * S + 10 + 1) + T 19 (35 * S + 10 + 2) + T 19 (35 * S + 10 + 3) + T 19 (35 * S + 10 + 4) + T 19 (35 * S + 10 + 5) = outT T S from rfl]
  refine aw_if_le (t := 14) (pcn := 10) dX4_hasOut_7 rfl (by decide) (fun q1 => ?_) (fun q1 => ?_)
  · refine aw_iconst (v := nI 0) (pcn := 15) dX4_hasOut_14 rfl (by decide) ?_
    exact aw_zret dX4_hasOut_15 rfl (by decide) ⟨_, rfl, ⟨by simp only [bI, nI_0, q1, Bool.false_eq_true, Bool.true_eq_false, reduceCtorEq, if_true, if_false, decide_true, decide_false, Bool.and_true, Bool.and_false, Bool.true_and, Bool.false_and, Bool.or_true, Bool.or_false, Bool.true_or, Bool.false_or, Bool.not_true, Bool.not_false, ← Int32.not_le, not_true_eq_false, not_false_eq_true, nI_0]; try exact nI_one, rfl⟩⟩
  · refine aw_iconst (v := nI 1) (pcn := 11) dX4_hasOut_10 rfl (by decide) ?_
    refine aw_goto (t := 15) dX4_hasOut_11 (by decide) ?_
    exact aw_zret dX4_hasOut_15 rfl (by decide) ⟨_, rfl, ⟨by simp only [bI, nI_0, q1, Bool.false_eq_true, Bool.true_eq_false, reduceCtorEq, if_true, if_false, decide_true, decide_false, Bool.and_true, Bool.and_false, Bool.true_and, Bool.false_and, Bool.or_true, Bool.or_false, Bool.true_or, Bool.false_or, Bool.not_true, Bool.not_false, ← Int32.not_le, not_true_eq_false, not_false_eq_true, nI_0]; try exact nI_one, rfl⟩⟩

set_option maxHeartbeats 8000000 in
set_option maxRecDepth 20000 in
theorem c_lockAtN {X : XG} {l : Launch} {Γ : NM} {ow : Nat → Nat × Nat} {h : Hp} {T Tr : TB} {nh : Nat} (hW : WD Γ ow h T Tr nh) {i C n Z hN : Nat} (hI : Iv i T C n Z hN) {S c : Nat} (hSn : S < n) (hcC : c < C) (hc0 : T 19 (35 * S + 0) = nI c) {K : Nat} (hK : K < 3) : AM X l yX4_lockAt cX4_lockAt 2 (some (.object "StateChannels$Lock")) 0 0 0 [.ref (Γ 8 S), .int (nI K)] h (qr fun r h' => LkOK h r (lkT T S K 0) (lkT T S K 1) (lkT T S K 2) (lkT T S K 3) (lkT T S K 4) ∧ h' = h) := by
  refine AM.of (by decide +kernel) (by simp [Value.category]) (Nat.le_of_ble_eq_true rfl) ?_
  show AW X l cX4_lockAt RX4 "lockAt" (some (.object "StateChannels$Lock")) 2 0 none _ 0 0 0 [some (.ref (Γ 8 S)), some (.int (nI K))] [] h
  have h64 := hI.n64
  have h8 := hI.C8
  have h16 := hI.Z16
  have h4 := hI.h4
  have hc8 : c < 8 := by omega
  have vc := hI.vc hcC
  have vs := hI.vs hSn
  obtain ⟨g, hc, hg⟩ := hW.ch vc
  obtain ⟨gs, hs, hgs⟩ := hW.st vs hc8 hc0
  obtain ⟨fl, hl1, hl2⟩ := hW.lk vs
  refine aw_ilo 1 (pcn := 1) rfl dX4_lockAt_0 rfl rfl ?_
  refine aw_if_lt (t := 22) (pcn := 4) dX4_lockAt_1 rfl (by decide) (fun q => absurd q (nI_pos (by omega))) (fun _ => ?_)
  refine aw_ilo 1 (pcn := 5) rfl dX4_lockAt_4 rfl rfl ?_
  refine aw_alo 0 (pcn := 6) rfl dX4_lockAt_5 rfl rfl (rf_some _) ?_
  refine aw_getf (pcn := 9) fl_X4_23 dX4_lockAt_6 rfl hs rfl ?_
  refine aw_alenr (v := nI 3) (pcn := 10) dX4_lockAt_9 rfl hl1 (by decide) (by decide) ?_
  refine aw_icmp_ge (t := 22) (pcn := 13) dX4_lockAt_10 rfl (by decide) (fun q => absurd q (nI_ge hK (by decide))) (fun _ => ?_)
  refine aw_alo 0 (pcn := 14) rfl dX4_lockAt_13 rfl rfl (rf_some _) ?_
  refine aw_getf (pcn := 17) fl_X4_23 dX4_lockAt_14 rfl hs rfl ?_
  refine aw_ilo 1 (pcn := 18) rfl dX4_lockAt_17 rfl rfl ?_
  refine aw_aaldN (pcn := 19) (by decide) dX4_lockAt_18 rfl hl1 (by decide) (show _ < 3 by omega) ?_
  refine aw_goto (t := 23) dX4_lockAt_19 (by decide) ?_
  exact aw_aret dX4_lockAt_23 rfl (Or.inl ⟨_, rfl⟩) rfl ⟨_, rfl, hl2 K hK, rfl⟩

set_option maxHeartbeats 8000000 in
set_option maxRecDepth 20000 in
theorem c_lockAt {X : XG} {l : Launch} {Γ : NM} {ow : Nat → Nat × Nat} {h : Hp} {T Tr : TB} {nh : Nat} (hW : WD Γ ow h T Tr nh) {i C n Z hN : Nat} (hI : Iv i T C n Z hN) {S c : Nat} (hSn : S < n) (hcC : c < C) (hc0 : T 19 (35 * S + 0) = nI c) (k : Int32) : AM X l yX4_lockAt cX4_lockAt 2 (some (.object "StateChannels$Lock")) 0 0 0 [.ref (Γ 8 S), .int k] h (qr fun r h' => ((inR k (nI 0) (nI 3 - nI 1) = false ∧ r = none) ∨ ∃ K, K < 3 ∧ k = nI K ∧ inR (nI K) (nI 0) (nI 3 - nI 1) = true ∧ LkOK h r (lkT T S K 0) (lkT T S K 1) (lkT T S K 2) (lkT T S K 3) (lkT T S K 4)) ∧ h' = h) := by
  refine AM.of (by decide +kernel) (by simp [Value.category]) (Nat.le_of_ble_eq_true rfl) ?_
  show AW X l cX4_lockAt RX4 "lockAt" (some (.object "StateChannels$Lock")) 2 0 none _ 0 0 0 [some (.ref (Γ 8 S)), some (.int k)] [] h
  have h64 := hI.n64
  have h8 := hI.C8
  have h16 := hI.Z16
  have h4 := hI.h4
  have hc8 : c < 8 := by omega
  have vc := hI.vc hcC
  have vs := hI.vs hSn
  obtain ⟨g, hc, hg⟩ := hW.ch vc
  obtain ⟨gs, hs, hgs⟩ := hW.st vs hc8 hc0
  obtain ⟨fl, hl1, hl2⟩ := hW.lk vs
  refine aw_ilo 1 (pcn := 1) rfl dX4_lockAt_0 rfl rfl ?_
  refine aw_if_lt (t := 22) (pcn := 4) dX4_lockAt_1 rfl (by decide) (fun q1 => ?_) (fun q1 => ?_)
  · replace q1 := Int32.not_le.mpr q1
    refine aw_null (pcn := 23) dX4_lockAt_22 rfl ?_
    exact aw_aret dX4_lockAt_23 rfl (Or.inl ⟨_, rfl⟩) rf_none ⟨_, rfl, Or.inl ⟨inR_no1 q1, rfl⟩, rfl⟩
  · replace q1 := Int32.not_lt.mp q1
    refine aw_ilo 1 (pcn := 5) rfl dX4_lockAt_4 rfl rfl ?_
    refine aw_alo 0 (pcn := 6) rfl dX4_lockAt_5 rfl rfl (rf_some _) ?_
    refine aw_getf (pcn := 9) fl_X4_23 dX4_lockAt_6 rfl hs rfl ?_
    refine aw_alenr (v := nI 3) (pcn := 10) dX4_lockAt_9 rfl hl1 (by decide) (by decide) ?_
    refine aw_icmp_ge (t := 22) (pcn := 13) dX4_lockAt_10 rfl (by decide) (fun q2 => ?_) (fun q2 => ?_)
    · refine aw_null (pcn := 23) dX4_lockAt_22 rfl ?_
      exact aw_aret dX4_lockAt_23 rfl (Or.inl ⟨_, rfl⟩) rf_none ⟨_, rfl, Or.inl ⟨inR_no2 (n := 3) (by decide) q2, rfl⟩, rfl⟩
    · obtain ⟨K, hK, rfl⟩ := ix_of (n := 3) (by decide) q1 q2
      refine aw_alo 0 (pcn := 14) rfl dX4_lockAt_13 rfl rfl (rf_some _) ?_
      refine aw_getf (pcn := 17) fl_X4_23 dX4_lockAt_14 rfl hs rfl ?_
      refine aw_ilo 1 (pcn := 18) rfl dX4_lockAt_17 rfl rfl ?_
      refine aw_aaldN (pcn := 19) (by decide) dX4_lockAt_18 rfl hl1 (by decide) (show _ < 3 by omega) ?_
      refine aw_goto (t := 23) dX4_lockAt_19 (by decide) ?_
      exact aw_aret dX4_lockAt_23 rfl (Or.inl ⟨_, rfl⟩) rfl ⟨_, rfl, Or.inr ⟨K, hK, rfl, inR_yes hK (by decide), hl2 K hK⟩, rfl⟩

theorem epT_eq {i : Nat} {T : TB} {C n Z hN : Nat} (H : Iv i T C n Z hN) {s : Nat} (hs : s < n) : epT T s = if lkT T s 0 0 = 0 then nI 0 else if lkT T s 1 0 = 0 then nI 1 else if lkT T s 2 0 = 0 then nI 2 else -1 := by
  obtain ⟨_, _, hl, _⟩ := H.st hs
  have key : ∀ k, k < 3 → (T 19 (35 * s + 16 + 5 * k + 0) ≤ 0) = (lkT T s k 0 = 0) := fun k hk => by
    have h0 := (hl k hk).1
    refine propext ⟨fun h => Int32.le_antisymm h h0, fun h => ?_⟩
    show lkT T s k 0 ≤ 0
    rw [h]
    exact Int32.le_refl _
  unfold epT
  simp only [key 0 (by decide), key 1 (by decide), key 2 (by decide)]
set_option maxHeartbeats 8000000 in
set_option maxRecDepth 20000 in
theorem c_emptyPlace {X : XG} {l : Launch} {Γ : NM} {ow : Nat → Nat × Nat} {h : Hp} {T Tr : TB} {nh : Nat} (hW : WD Γ ow h T Tr nh) {i C n Z hN : Nat} (hI : Iv i T C n Z hN) {S c : Nat} (hSn : S < n) (hcC : c < C) (hc0 : T 19 (35 * S + 0) = nI c) : AM X l yX4_emptyPlace cX4_emptyPlace 2 (some .int) 0 0 0 [.ref (Γ 8 S)] h (qi fun r h' => r = epT T S ∧ h' = h) := by
  refine AM.of (by decide +kernel) (by simp [Value.category]) (Nat.le_of_ble_eq_true rfl) ?_
  show AW X l cX4_emptyPlace RX4 "emptyPlace" (some .int) 2 0 none _ 0 0 0 [some (.ref (Γ 8 S)), none] [] h
  have h64 := hI.n64
  have h8 := hI.C8
  have h16 := hI.Z16
  have h4 := hI.h4
  have hc8 : c < 8 := by omega
  have vc := hI.vc hcC
  have vs := hI.vs hSn
  obtain ⟨g, hc, hg⟩ := hW.ch vc
  obtain ⟨gs, hs, hgs⟩ := hW.st vs hc8 hc0
  obtain ⟨fl, hl1, hl2⟩ := hW.lk vs
  refine aw_iconst (v := nI 0) (pcn := 1) dX4_emptyPlace_0 rfl (by decide) ?_
  refine aw_ist 1 (pcn := 2) rfl dX4_emptyPlace_1 rfl (by decide) ?_
  dsimp only [List.set_cons_zero, List.set_cons_succ]
  refine aw_ilo 1 (pcn := 3) rfl dX4_emptyPlace_2 rfl rfl ?_
  refine aw_alo 0 (pcn := 4) rfl dX4_emptyPlace_3 rfl rfl (rf_some _) ?_
  refine aw_getf (pcn := 7) fl_X4_23 dX4_emptyPlace_4 rfl hs rfl ?_
  refine aw_alenr (v := nI 3) (pcn := 8) dX4_emptyPlace_7 rfl hl1 (by decide) (by decide) ?_
  refine aw_icmp_ge (t := 28) (pcn := 11) dX4_emptyPlace_8 rfl (by decide) (fun q1 => absurd q1 (by decide)) (fun q1 => ?_)
  refine aw_alo 0 (pcn := 12) rfl dX4_emptyPlace_11 rfl rfl (rf_some _) ?_
  refine aw_getf (pcn := 15) fl_X4_23 dX4_emptyPlace_12 rfl hs rfl ?_
  refine aw_ilo 1 (pcn := 16) rfl dX4_emptyPlace_15 rfl rfl ?_
  refine aw_aaldN (pcn := 17) (by decide) dX4_emptyPlace_16 rfl hl1 (by decide) (show _ < 3 by omega) ?_
  refine aw_ifnonnull (t := 22) (pcn := 20) dX4_emptyPlace_17 rfl (by decide) rfl (fun a3 q2 => ?_) (fun q2 => ?_)
  · have hz0 := ((hl2 0 (by decide)).s q2).1
    refine aw_iinc (v := nI 1) (pcn := 25) dX4_emptyPlace_22 rfl (by decide) rfl (by decide) ?_
    dsimp only [List.set_cons_zero, List.set_cons_succ]
    refine aw_goto (t := 2) dX4_emptyPlace_25 (by decide) ?_
    refine aw_ilo 1 (pcn := 3) rfl dX4_emptyPlace_2 rfl rfl ?_
    refine aw_alo 0 (pcn := 4) rfl dX4_emptyPlace_3 rfl rfl (rf_some _) ?_
    refine aw_getf (pcn := 7) fl_X4_23 dX4_emptyPlace_4 rfl hs rfl ?_
    refine aw_alenr (v := nI 3) (pcn := 8) dX4_emptyPlace_7 rfl hl1 (by decide) (by decide) ?_
    refine aw_icmp_ge (t := 28) (pcn := 11) dX4_emptyPlace_8 rfl (by decide) (fun q4 => absurd q4 (by decide)) (fun q4 => ?_)
    refine aw_alo 0 (pcn := 12) rfl dX4_emptyPlace_11 rfl rfl (rf_some _) ?_
    refine aw_getf (pcn := 15) fl_X4_23 dX4_emptyPlace_12 rfl hs rfl ?_
    refine aw_ilo 1 (pcn := 16) rfl dX4_emptyPlace_15 rfl rfl ?_
    refine aw_aaldN (pcn := 17) (by decide) dX4_emptyPlace_16 rfl hl1 (by decide) (show _ < 3 by omega) ?_
    refine aw_ifnonnull (t := 22) (pcn := 20) dX4_emptyPlace_17 rfl (by decide) rfl (fun a6 q5 => ?_) (fun q5 => ?_)
    · have hz1 := ((hl2 1 (by decide)).s q5).1
      refine aw_iinc (v := nI 2) (pcn := 25) dX4_emptyPlace_22 rfl (by decide) rfl (by decide) ?_
      dsimp only [List.set_cons_zero, List.set_cons_succ]
      refine aw_goto (t := 2) dX4_emptyPlace_25 (by decide) ?_
      refine aw_ilo 1 (pcn := 3) rfl dX4_emptyPlace_2 rfl rfl ?_
      refine aw_alo 0 (pcn := 4) rfl dX4_emptyPlace_3 rfl rfl (rf_some _) ?_
      refine aw_getf (pcn := 7) fl_X4_23 dX4_emptyPlace_4 rfl hs rfl ?_
      refine aw_alenr (v := nI 3) (pcn := 8) dX4_emptyPlace_7 rfl hl1 (by decide) (by decide) ?_
      refine aw_icmp_ge (t := 28) (pcn := 11) dX4_emptyPlace_8 rfl (by decide) (fun q7 => absurd q7 (by decide)) (fun q7 => ?_)
      refine aw_alo 0 (pcn := 12) rfl dX4_emptyPlace_11 rfl rfl (rf_some _) ?_
      refine aw_getf (pcn := 15) fl_X4_23 dX4_emptyPlace_12 rfl hs rfl ?_
      refine aw_ilo 1 (pcn := 16) rfl dX4_emptyPlace_15 rfl rfl ?_
      refine aw_aaldN (pcn := 17) (by decide) dX4_emptyPlace_16 rfl hl1 (by decide) (show _ < 3 by omega) ?_
      refine aw_ifnonnull (t := 22) (pcn := 20) dX4_emptyPlace_17 rfl (by decide) rfl (fun a9 q8 => ?_) (fun q8 => ?_)
      · have hz2 := ((hl2 2 (by decide)).s q8).1
        refine aw_iinc (v := nI 3) (pcn := 25) dX4_emptyPlace_22 rfl (by decide) rfl (by decide) ?_
        dsimp only [List.set_cons_zero, List.set_cons_succ]
        refine aw_goto (t := 2) dX4_emptyPlace_25 (by decide) ?_
        refine aw_ilo 1 (pcn := 3) rfl dX4_emptyPlace_2 rfl rfl ?_
        refine aw_alo 0 (pcn := 4) rfl dX4_emptyPlace_3 rfl rfl (rf_some _) ?_
        refine aw_getf (pcn := 7) fl_X4_23 dX4_emptyPlace_4 rfl hs rfl ?_
        refine aw_alenr (v := nI 3) (pcn := 8) dX4_emptyPlace_7 rfl hl1 (by decide) (by decide) ?_
        refine aw_icmp_ge (t := 28) (pcn := 11) dX4_emptyPlace_8 rfl (by decide) (fun q10 => ?_) (fun q10 => absurd (by decide) q10)
        refine aw_iconst (v := -1) (pcn := 29) dX4_emptyPlace_28 rfl (by decide) ?_
        exact aw_iret dX4_emptyPlace_29 rfl ⟨_, rfl, ⟨by rw [epT_eq hI hSn]; first | (rw [if_pos hz0]; done) | (rw [if_neg hz0, if_pos hz1]; done) | (rw [if_neg hz0, if_neg hz1, if_pos hz2]; done) | (rw [if_neg hz0, if_neg hz1, if_neg hz2]), rfl⟩⟩
      · have hz2 := (hl2 2 (by decide)).n q8
        refine aw_ilo 1 (pcn := 21) rfl dX4_emptyPlace_20 rfl rfl ?_
        exact aw_iret dX4_emptyPlace_21 rfl ⟨_, rfl, ⟨by rw [epT_eq hI hSn]; first | (rw [if_pos hz0]; done) | (rw [if_neg hz0, if_pos hz1]; done) | (rw [if_neg hz0, if_neg hz1, if_pos hz2]; done) | (rw [if_neg hz0, if_neg hz1, if_neg hz2]), rfl⟩⟩
    · have hz1 := (hl2 1 (by decide)).n q5
      refine aw_ilo 1 (pcn := 21) rfl dX4_emptyPlace_20 rfl rfl ?_
      exact aw_iret dX4_emptyPlace_21 rfl ⟨_, rfl, ⟨by rw [epT_eq hI hSn]; first | (rw [if_pos hz0]; done) | (rw [if_neg hz0, if_pos hz1]; done) | (rw [if_neg hz0, if_neg hz1, if_pos hz2]; done) | (rw [if_neg hz0, if_neg hz1, if_neg hz2]), rfl⟩⟩
  · have hz0 := (hl2 0 (by decide)).n q2
    refine aw_ilo 1 (pcn := 21) rfl dX4_emptyPlace_20 rfl rfl ?_
    exact aw_iret dX4_emptyPlace_21 rfl ⟨_, rfl, ⟨by rw [epT_eq hI hSn]; first | (rw [if_pos hz0]; done) | (rw [if_neg hz0, if_pos hz1]; done) | (rw [if_neg hz0, if_neg hz1, if_pos hz2]; done) | (rw [if_neg hz0, if_neg hz1, if_neg hz2]), rfl⟩⟩

set_option maxHeartbeats 8000000 in
set_option maxRecDepth 20000 in
theorem c_isSecret {X : XG} {l : Launch} {Γ : NM} {ow : Nat → Nat × Nat} {h : Hp} {T Tr : TB} {nh : Nat} (hW : WD Γ ow h T Tr nh) {i C n Z hN : Nat} (hI : Iv i T C n Z hN) (z : Int32) : AM X l yX6_isSecret cX6_isSecret 2 (some .boolean) 0 0 0 [.ref (Γ 0 0), .int z] h (qi fun r h' => r = bI (isZT T z) ∧ h' = h) := by
  refine AM.of (by decide +kernel) (by simp [Value.category]) (Nat.le_of_ble_eq_true rfl) ?_
  show AW X l cX6_isSecret RX6 "isSecret" (some .boolean) 2 0 none _ 0 0 0 [some (.ref (Γ 0 0)), some (.int z)] [] h
  have h64 := hI.n64
  have h8 := hI.C8
  have h16 := hI.Z16
  have h4 := hI.h4
  refine aw_ilo 1 (pcn := 1) rfl dX6_isSecret_0 rfl rfl ?_
  refine aw_if_lt (t := 25) (pcn := 4) dX6_isSecret_1 rfl (by decide) (fun q1 => ?_) (fun q1 => ?_)
  · replace q1 := Int32.not_le.mpr q1
    refine aw_iconst (v := nI 0) (pcn := 26) dX6_isSecret_25 rfl (by decide) ?_
    exact aw_zret dX6_isSecret_26 rfl (by decide) ⟨_, rfl, ⟨by rw [show isZT T z = false from inR_no1 q1]; exact nI_0, rfl⟩⟩
  · replace q1 := Int32.not_lt.mp q1
    refine aw_ilo 1 (pcn := 5) rfl dX6_isSecret_4 rfl rfl ?_
    refine aw_alo 0 (pcn := 6) rfl dX6_isSecret_5 rfl rfl (rf_some _) ?_
    refine aw_getf (pcn := 9) fl_X6_274 dX6_isSecret_6 rfl hW.sc rfl ?_
    rw [hI.z3]
    refine aw_icmp_ge (t := 25) (pcn := 12) dX6_isSecret_9 rfl (by decide) (fun q2 => ?_) (fun q2 => ?_)
    · refine aw_iconst (v := nI 0) (pcn := 26) dX6_isSecret_25 rfl (by decide) ?_
      exact aw_zret dX6_isSecret_26 rfl (by decide) ⟨_, rfl, ⟨by rw [show isZT T z = false by unfold isZT; rw [hI.z3]; exact inR_no2 (by omega) q2]; exact nI_0, rfl⟩⟩
    · obtain ⟨K, hK, rfl⟩ := ix_of (n := Z) (by omega) q1 q2
      refine aw_ilo 1 (pcn := 13) rfl dX6_isSecret_12 rfl rfl ?_
      refine aw_alo 0 (pcn := 14) rfl dX6_isSecret_13 rfl rfl (rf_some _) ?_
      refine aw_getf (pcn := 17) fl_X6_28 dX6_isSecret_14 rfl hW.sc rfl ?_
      refine aw_aleni (v := nI 16) (pcn := 18) dX6_isSecret_17 rfl hW.kno (by decide) ?_
      refine aw_icmp_ge (t := 25) (pcn := 21) dX6_isSecret_18 rfl (by decide) (fun q => absurd q (nI_ge (by omega) (by decide))) (fun _ => ?_)
      refine aw_iconst (v := nI 1) (pcn := 22) dX6_isSecret_21 rfl (by decide) ?_
      refine aw_goto (t := 26) dX6_isSecret_22 (by decide) ?_
      exact aw_zret dX6_isSecret_26 rfl (by decide) ⟨_, rfl, ⟨by rw [hI.ztOf hK]; exact nI_one, rfl⟩⟩

set_option maxHeartbeats 8000000 in
set_option maxRecDepth 20000 in
theorem c_isKnownBy {X : XG} {l : Launch} {Γ : NM} {ow : Nat → Nat × Nat} {h : Hp} {T Tr : TB} {nh : Nat} (hW : WD Γ ow h T Tr nh) {i C n Z hN : Nat} (hI : Iv i T C n Z hN) {K P : Nat} (hK : K < Z) (hP : P < 6) : AM X l yX6_isKnownBy cX6_isKnownBy 3 (some .boolean) 1 0 0 [.ref (Γ 0 0), .int (nI K), .int (nI P)] h (qi fun r h' => r = bI (hasB (T 4 K) (nI P)) ∧ h' = h) := by
  refine AM.of (by decide +kernel) (by simp [Value.category]) (Nat.le_of_ble_eq_true rfl) ?_
  show AW X l cX6_isKnownBy RX6 "isKnownBy" (some .boolean) 3 1 none _ 0 0 0 [some (.ref (Γ 0 0)), some (.int (nI K)), some (.int (nI P))] [] h
  have h64 := hI.n64
  have h8 := hI.C8
  have h16 := hI.Z16
  have h4 := hI.h4
  refine aw_alo 0 (pcn := 1) rfl dX6_isKnownBy_0 rfl rfl (rf_some _) ?_
  refine aw_ilo 1 (pcn := 2) rfl dX6_isKnownBy_1 rfl rfl ?_
  refine aw_Vi (pcn := 5) (c_isSecret hW hI _) mf_X6_isSecret mv_X6_isSecret hW.sc rfl ml_X6_136 rfl (by decide) (by decide) (by decide) (by exact Nat.le_of_ble_eq_true rfl) rfl dX6_isKnownBy_2 rfl (fun r h2 hq => ?_)
  obtain ⟨rfl, hq⟩ := hq
  obtain rfl := hq.symm
  rw [hI.ztOf hK]
  refine aw_if_eqB (t := 25) (pcn := 8) dX6_isKnownBy_5 rfl (by decide) (fun q => by cases q) (fun _ => ?_)
  refine aw_alo 0 (pcn := 9) rfl dX6_isKnownBy_8 rfl rfl (rf_some _) ?_
  refine aw_getf (pcn := 12) fl_X6_28 dX6_isKnownBy_9 rfl hW.sc rfl ?_
  refine aw_ilo 1 (pcn := 13) rfl dX6_isKnownBy_12 rfl rfl ?_
  refine aw_ialdN (pcn := 14) (by decide) dX6_isKnownBy_13 rfl hW.kno (show _ < 16 by omega) ?_
  refine aw_ilo 2 (pcn := 15) rfl dX6_isKnownBy_14 rfl rfl ?_
  refine aw_Si (pcn := 18) (c_isIn _ _) mf_X6_isIn mv_X6_isIn ml_X6_107 rfl (by decide) (by decide) (by decide) (by exact Nat.le_of_ble_eq_true rfl) rfl dX6_isKnownBy_15 rfl (fun r h2 hq => ?_)
  obtain ⟨rfl, hq⟩ := hq
  obtain rfl := hq.symm
  rw [inB_has (hI.k4 (by omega)) hP]
  refine aw_if_eqB (t := 25) (pcn := 21) dX6_isKnownBy_18 rfl (by decide) (fun q1 => ?_) (fun q1 => ?_)
  · refine aw_iconst (v := nI 0) (pcn := 26) dX6_isKnownBy_25 rfl (by decide) ?_
    exact aw_zret dX6_isKnownBy_26 rfl (by decide) ⟨_, rfl, ⟨by rw [q1]; first | exact nI_0 | exact nI_one, rfl⟩⟩
  · refine aw_iconst (v := nI 1) (pcn := 22) dX6_isKnownBy_21 rfl (by decide) ?_
    refine aw_goto (t := 26) dX6_isKnownBy_22 (by decide) ?_
    exact aw_zret dX6_isKnownBy_26 rfl (by decide) ⟨_, rfl, ⟨by rw [q1]; first | exact nI_0 | exact nI_one, rfl⟩⟩

set_option maxHeartbeats 8000000 in
set_option maxRecDepth 20000 in
theorem c_canClaim {X : XG} {l : Launch} {Γ : NM} {ow : Nat → Nat × Nat} {h : Hp} {T Tr : TB} {nh : Nat} (hW : WD Γ ow h T Tr nh) {i C n Z hN : Nat} (hI : Iv i T C n Z hN) {a z P : Nat} {fr to mu ex : Int32} (hlo : h a = some (ob 3 [.int fr, .int to, .int mu, .int (nI z), .int ex])) (hZz : z < Z) (hP : P < 6) : AM X l yX6_canClaim cX6_canClaim 3 (some .boolean) 2 0 0 [.ref (Γ 0 0), .ref a, .int (nI P)] h (qi fun r h' => r = bI (decide (to = nI P) && hasB (T 4 z) (nI P)) ∧ h' = h) := by
  refine AM.of (by decide +kernel) (by simp [Value.category]) (Nat.le_of_ble_eq_true rfl) ?_
  show AW X l cX6_canClaim RX6 "canClaim" (some .boolean) 3 2 none _ 0 0 0 [some (.ref (Γ 0 0)), some (.ref a), some (.int (nI P))] [] h
  have h64 := hI.n64
  have h8 := hI.C8
  have h16 := hI.Z16
  have h4 := hI.h4
  refine aw_alo 1 (pcn := 1) rfl dX6_canClaim_0 rfl rfl (rf_some _) ?_
  refine aw_getf (pcn := 4) fl_X6_161 dX6_canClaim_1 rfl hlo rfl ?_
  refine aw_ilo 2 (pcn := 5) rfl dX6_canClaim_4 rfl rfl ?_
  refine aw_icmp_ne (t := 24) (pcn := 8) dX6_canClaim_5 rfl (by decide) (fun q1 => ?_) (fun q1 => ?_)
  · refine aw_iconst (v := nI 0) (pcn := 25) dX6_canClaim_24 rfl (by decide) ?_
    exact aw_zret dX6_canClaim_25 rfl (by decide) ⟨_, rfl, ⟨by simp only [bI, q1, Bool.false_eq_true, Bool.true_eq_false, reduceCtorEq, if_true, if_false, decide_true, decide_false, Bool.and_true, Bool.and_false, Bool.true_and, Bool.false_and, Bool.or_true, Bool.or_false, Bool.true_or, Bool.false_or, Bool.not_true, Bool.not_false, ← Int32.not_le, not_true_eq_false, not_false_eq_true, nI_0]; try exact nI_one, rfl⟩⟩
  · refine aw_alo 0 (pcn := 9) rfl dX6_canClaim_8 rfl rfl (rf_some _) ?_
    refine aw_alo 1 (pcn := 10) rfl dX6_canClaim_9 rfl rfl (rf_some _) ?_
    refine aw_getf (pcn := 13) fl_X6_288 dX6_canClaim_10 rfl hlo rfl ?_
    refine aw_ilo 2 (pcn := 14) rfl dX6_canClaim_13 rfl rfl ?_
    refine aw_Vi (pcn := 17) (c_isKnownBy hW hI hZz hP) mf_X6_isKnownBy mv_X6_isKnownBy hW.sc rfl ml_X6_271 rfl (by decide) (by decide) (by decide) (by exact Nat.le_of_ble_eq_true rfl) rfl dX6_canClaim_14 rfl (fun r h2 hq => ?_)
    obtain ⟨rfl, hq⟩ := hq
    obtain rfl := hq.symm
    refine aw_if_eqB (t := 24) (pcn := 20) dX6_canClaim_17 rfl (by decide) (fun q2 => ?_) (fun q2 => ?_)
    · refine aw_iconst (v := nI 0) (pcn := 25) dX6_canClaim_24 rfl (by decide) ?_
      exact aw_zret dX6_canClaim_25 rfl (by decide) ⟨_, rfl, ⟨by simp only [bI, q1, q2, Bool.false_eq_true, Bool.true_eq_false, reduceCtorEq, if_true, if_false, decide_true, decide_false, Bool.and_true, Bool.and_false, Bool.true_and, Bool.false_and, Bool.or_true, Bool.or_false, Bool.true_or, Bool.false_or, Bool.not_true, Bool.not_false, ← Int32.not_le, not_true_eq_false, not_false_eq_true, nI_0]; try exact nI_one, rfl⟩⟩
    · refine aw_iconst (v := nI 1) (pcn := 21) dX6_canClaim_20 rfl (by decide) ?_
      refine aw_goto (t := 25) dX6_canClaim_21 (by decide) ?_
      exact aw_zret dX6_canClaim_25 rfl (by decide) ⟨_, rfl, ⟨by simp only [bI, q1, q2, Bool.false_eq_true, Bool.true_eq_false, reduceCtorEq, if_true, if_false, decide_true, decide_false, Bool.and_true, Bool.and_false, Bool.true_and, Bool.false_and, Bool.or_true, Bool.or_false, Bool.true_or, Bool.false_or, Bool.not_true, Bool.not_false, ← Int32.not_le, not_true_eq_false, not_false_eq_true, nI_0]; try exact nI_one, rfl⟩⟩

set_option maxHeartbeats 8000000 in
set_option maxRecDepth 20000 in
theorem c_hasRoomS {X : XG} {l : Launch} {Γ : NM} {ow : Nat → Nat × Nat} {h : Hp} {T Tr : TB} {nh : Nat} (hW : WD Γ ow h T Tr nh) {i C n Z hN : Nat} (hI : Iv i T C n Z hN) {k : Nat} (hk : k ≤ 64) : AM X l yX6_hasRoomForStates cX6_hasRoomForStates 2 (some .boolean) 0 0 0 [.ref (Γ 0 0), .int (nI k)] h (qi fun r h' => r = bI (decide (n + k ≤ 64)) ∧ h' = h) := by
  refine AM.of (by decide +kernel) (by simp [Value.category]) (Nat.le_of_ble_eq_true rfl) ?_
  show AW X l cX6_hasRoomForStates RX6 "hasRoomForStates" (some .boolean) 2 0 none _ 0 0 0 [some (.ref (Γ 0 0)), some (.int (nI k))] [] h
  have h64 := hI.n64
  have h8 := hI.C8
  have h16 := hI.Z16
  have h4 := hI.h4
  refine aw_alo 0 (pcn := 1) rfl dX6_hasRoomForStates_0 rfl rfl (rf_some _) ?_
  refine aw_getf (pcn := 4) fl_X6_104 dX6_hasRoomForStates_1 rfl hW.sc rfl ?_
  rw [hI.n18]
  refine aw_ilo 1 (pcn := 5) rfl dX6_hasRoomForStates_4 rfl rfl ?_
  refine aw_iaddN (pcn := 6) dX6_hasRoomForStates_5 rfl ?_
  refine aw_alo 0 (pcn := 7) rfl dX6_hasRoomForStates_6 rfl rfl (rf_some _) ?_
  refine aw_getf (pcn := 10) fl_X6_24 dX6_hasRoomForStates_7 rfl hW.sc rfl ?_
  refine aw_alenr (v := nI 64) (pcn := 11) dX6_hasRoomForStates_10 rfl hW.sts (by decide) (by decide) ?_
  refine aw_icmp_gt (t := 18) (pcn := 14) dX6_hasRoomForStates_11 rfl (by decide) (fun q1 => ?_) (fun q1 => ?_)
  · replace q1 := Int32.not_le.mpr q1
    refine aw_iconst (v := nI 0) (pcn := 19) dX6_hasRoomForStates_18 rfl (by decide) ?_
    exact aw_zret dX6_hasRoomForStates_19 rfl (by decide) ⟨_, rfl, ⟨by rw [nI_leI (by omega) (by decide)] at q1; first | (rw [decide_eq_true q1]; exact nI_one) | (rw [decide_eq_false q1]; exact nI_0), rfl⟩⟩
  · replace q1 := Int32.not_lt.mp q1
    refine aw_iconst (v := nI 1) (pcn := 15) dX6_hasRoomForStates_14 rfl (by decide) ?_
    refine aw_goto (t := 19) dX6_hasRoomForStates_15 (by decide) ?_
    exact aw_zret dX6_hasRoomForStates_19 rfl (by decide) ⟨_, rfl, ⟨by rw [nI_leI (by omega) (by decide)] at q1; first | (rw [decide_eq_true q1]; exact nI_one) | (rw [decide_eq_false q1]; exact nI_0), rfl⟩⟩

set_option maxHeartbeats 8000000 in
set_option maxRecDepth 20000 in
theorem c_hasRoomZ {X : XG} {l : Launch} {Γ : NM} {ow : Nat → Nat × Nat} {h : Hp} {T Tr : TB} {nh : Nat} (hW : WD Γ ow h T Tr nh) {i C n Z hN : Nat} (hI : Iv i T C n Z hN) : AM X l yX6_hasRoomForSecret cX6_hasRoomForSecret 1 (some .boolean) 0 0 0 [.ref (Γ 0 0)] h (qi fun r h' => r = bI (!decide (T 3 0 = nI 16)) ∧ h' = h) := by
  refine AM.of (by decide +kernel) (by simp [Value.category]) (Nat.le_of_ble_eq_true rfl) ?_
  show AW X l cX6_hasRoomForSecret RX6 "hasRoomForSecret" (some .boolean) 1 0 none _ 0 0 0 [some (.ref (Γ 0 0))] [] h
  have h64 := hI.n64
  have h8 := hI.C8
  have h16 := hI.Z16
  have h4 := hI.h4
  refine aw_alo 0 (pcn := 1) rfl dX6_hasRoomForSecret_0 rfl rfl (rf_some _) ?_
  refine aw_getf (pcn := 4) fl_X6_274 dX6_hasRoomForSecret_1 rfl hW.sc rfl ?_
  refine aw_alo 0 (pcn := 5) rfl dX6_hasRoomForSecret_4 rfl rfl (rf_some _) ?_
  refine aw_getf (pcn := 8) fl_X6_28 dX6_hasRoomForSecret_5 rfl hW.sc rfl ?_
  refine aw_aleni (v := nI 16) (pcn := 9) dX6_hasRoomForSecret_8 rfl hW.kno (by decide) ?_
  refine aw_icmp_ge (t := 16) (pcn := 12) dX6_hasRoomForSecret_9 rfl (by decide) (fun q1 => ?_) (fun q1 => ?_)
  · refine aw_iconst (v := nI 0) (pcn := 17) dX6_hasRoomForSecret_16 rfl (by decide) ?_
    exact aw_zret dX6_hasRoomForSecret_17 rfl (by decide) ⟨_, rfl, ⟨by rw [hI.z3] at *; first | (rw [decide_eq_true (show nI Z = nI 16 by have e := (nI_leI (by decide) (by omega)).mp q1; rw [show Z = 16 by omega])]; exact nI_0) | (rw [decide_eq_false (show ¬ nI Z = nI 16 from fun e => by rw [e] at q1; exact q1 (Int32.le_refl _))]; exact nI_one), rfl⟩⟩
  · refine aw_iconst (v := nI 1) (pcn := 13) dX6_hasRoomForSecret_12 rfl (by decide) ?_
    refine aw_goto (t := 17) dX6_hasRoomForSecret_13 (by decide) ?_
    exact aw_zret dX6_hasRoomForSecret_17 rfl (by decide) ⟨_, rfl, ⟨by rw [hI.z3] at *; first | (rw [decide_eq_true (show nI Z = nI 16 by have e := (nI_leI (by decide) (by omega)).mp q1; rw [show Z = 16 by omega])]; exact nI_0) | (rw [decide_eq_false (show ¬ nI Z = nI 16 from fun e => by rw [e] at q1; exact q1 (Int32.le_refl _))]; exact nI_one), rfl⟩⟩

theorem poor_of {T : TB} {set v : Int32} {p : Nat} (hp : p < 6) (h : poor1 T set v p = true) : poorT T set v = true := by
  unfold poorT
  rcases (show p = 0 ∨ p = 1 ∨ p = 2 ∨ p = 3 ∨ p = 4 ∨ p = 5 by omega) with rfl | rfl | rfl | rfl | rfl | rfl <;> simp [h]
set_option maxHeartbeats 8000000 in
set_option maxRecDepth 20000 in
theorem c_allHave {X : XG} {l : Launch} {Γ : NM} {ow : Nat → Nat × Nat} {h : Hp} {T Tr : TB} {nh : Nat} (hW : WD Γ ow h T Tr nh) {i C n Z hN : Nat} (hI : Iv i T C n Z hN) {set : Int32} (hset : okI set 64) (v : Int32) : AM X l yX6_allHave cX6_allHave 4 (some .boolean) 1 0 0 [.ref (Γ 0 0), .int set, .int v] h (qi fun r h' => r = bI (!poorT T set v) ∧ h' = h) := by
  refine AM.of (by decide +kernel) (by simp [Value.category]) (Nat.le_of_ble_eq_true rfl) ?_
  show AW X l cX6_allHave RX6 "allHave" (some .boolean) 4 1 none _ 0 0 0 [some (.ref (Γ 0 0)), some (.int set), some (.int v), none] [] h
  have h64 := hI.n64
  have h8 := hI.C8
  have h16 := hI.Z16
  have h4 := hI.h4
  refine aw_iconst (v := nI 0) (pcn := 1) dX6_allHave_0 rfl (by decide) ?_
  refine aw_ist 3 (pcn := 2) rfl dX6_allHave_1 rfl (by decide) ?_
  dsimp only [List.set_cons_zero, List.set_cons_succ]
  have body : ∀ (p : Nat), p < 6 → (poor1 T set v p = false → AW X l cX6_allHave RX6 "allHave" (some .boolean) 4 1 none (qi fun r h' => r = bI (!poorT T set v) ∧ h' = h) 0 0 2 [some (.ref (Γ 0 0)), some (.int set), some (.int v), some (.int (nI (p + 1)))] [] h) → AW X l cX6_allHave RX6 "allHave" (some .boolean) 4 1 none (qi fun r h' => r = bI (!poorT T set v) ∧ h' = h) 0 0 2 [some (.ref (Γ 0 0)), some (.int set), some (.int v), some (.int (nI (p)))] [] h := by
    intro p hp kk
    refine aw_ilo 3 (pcn := 3) rfl dX6_allHave_2 rfl rfl ?_
    refine aw_bipush (v := nI 6) (pcn := 5) dX6_allHave_3 rfl (by decide) ?_
    refine aw_icmp_ge (t := 36) (pcn := 8) dX6_allHave_5 rfl (by decide) (fun q => absurd q (nI_ge hp (by decide))) (fun _ => ?_)
    refine aw_ilo 1 (pcn := 9) rfl dX6_allHave_8 rfl rfl ?_
    refine aw_ilo 3 (pcn := 10) rfl dX6_allHave_9 rfl rfl ?_
    refine aw_Si (pcn := 13) (c_isIn _ _) mf_X6_isIn mv_X6_isIn ml_X6_107 rfl (by decide) (by decide) (by decide) (by exact Nat.le_of_ble_eq_true rfl) rfl dX6_allHave_10 rfl (fun r h2 hq => ?_)
    obtain ⟨rfl, hq⟩ := hq
    obtain rfl := hq.symm
    rw [inB_has hset hp]
    refine aw_if_eqB (t := 30) (pcn := 16) dX6_allHave_13 rfl (by decide) (fun q1 => ?_) (fun q1 => ?_)
    · refine aw_iincN (pcn := 33) dX6_allHave_30 rfl (by decide) rfl ?_
      dsimp only [List.set_cons_zero, List.set_cons_succ]
      refine aw_goto (t := 2) dX6_allHave_33 (by decide) ?_
      exact kk (by unfold poor1; simp only [q1, Bool.false_and, Bool.true_and, ← Int32.not_le, not_true_eq_false, decide_false])
    · refine aw_alo 0 (pcn := 17) rfl dX6_allHave_16 rfl rfl (rf_some _) ?_
      refine aw_getf (pcn := 20) fl_X6_10 dX6_allHave_17 rfl hW.sc rfl ?_
      refine aw_ilo 3 (pcn := 21) rfl dX6_allHave_20 rfl rfl ?_
      refine aw_Vi (pcn := 24) (c_get0 hW.acc.1 hW.acc.2 _) mf_X5_get mv_X5_get hW.acc.1 rfl ml_X6_110 rfl (by decide) (by decide) (by decide) (by exact Nat.le_of_ble_eq_true rfl) rfl dX6_allHave_21 rfl (fun r h2 hq => ?_)
      obtain ⟨rfl, hq⟩ := hq
      obtain rfl := hq.symm
      rw [sgT_nI hp]
      refine aw_ilo 2 (pcn := 25) rfl dX6_allHave_24 rfl rfl ?_
      refine aw_icmp_ge (t := 30) (pcn := 28) dX6_allHave_25 rfl (by decide) (fun q2 => ?_) (fun q2 => ?_)
      · refine aw_iincN (pcn := 33) dX6_allHave_30 rfl (by decide) rfl ?_
        dsimp only [List.set_cons_zero, List.set_cons_succ]
        refine aw_goto (t := 2) dX6_allHave_33 (by decide) ?_
        exact kk (by unfold poor1; simp only [q1, q2, Bool.false_and, Bool.true_and, ← Int32.not_le, not_true_eq_false, decide_false])
      · refine aw_iconst (v := nI 0) (pcn := 29) dX6_allHave_28 rfl (by decide) ?_
        exact aw_zret dX6_allHave_29 rfl (by decide) ⟨_, rfl, ⟨by rw [poor_of hp (by unfold poor1; simp only [q1, q2, Bool.true_and, ← Int32.not_le, not_false_eq_true, decide_true])]; exact nI_0, rfl⟩⟩
  refine body 0 (by decide) (fun e0 => ?_)
  refine body 1 (by decide) (fun e1 => ?_)
  refine body 2 (by decide) (fun e2 => ?_)
  refine body 3 (by decide) (fun e3 => ?_)
  refine body 4 (by decide) (fun e4 => ?_)
  refine body 5 (by decide) (fun e5 => ?_)
  refine aw_ilo 3 (pcn := 3) rfl dX6_allHave_2 rfl rfl ?_
  refine aw_bipush (v := nI 6) (pcn := 5) dX6_allHave_3 rfl (by decide) ?_
  refine aw_icmp_ge (t := 36) (pcn := 8) dX6_allHave_5 rfl (by decide) (fun q3 => ?_) (fun q3 => absurd (by decide) q3)
  refine aw_iconst (v := nI 1) (pcn := 37) dX6_allHave_36 rfl (by decide) ?_
  exact aw_zret dX6_allHave_37 rfl (by decide) ⟨_, rfl, ⟨by unfold poorT; rw [e0, e1, e2, e3, e4, e5]; exact nI_one, rfl⟩⟩

theorem n21 : (nI 2 = nI 1) = False := by decide
theorem n31 : (nI 3 = nI 1) = False := by decide
theorem n32 : (nI 3 = nI 2) = False := by decide
theorem n12 : (nI 1 = nI 2) = False := by decide
theorem n13 : (nI 1 = nI 3) = False := by decide
theorem n23 : (nI 2 = nI 3) = False := by decide
theorem sref_nI {Γ : NM} {s : Nat} (hs : s < 64) : sref Γ (nI s) = some (Γ 8 s) := by
  unfold sref
  rw [if_neg (nI_pos (by omega)), ix_nI (by omega)]
theorem sref_m1 {Γ : NM} : sref Γ (-1) = none := rfl
set_option maxHeartbeats 8000000 in
set_option maxRecDepth 20000 in
theorem c_wouldTake {X : XG} {l : Launch} {Γ : NM} {ow : Nat → Nat × Nat} {h : Hp} {T Tr : TB} {nh : Nat} (hW : WD Γ ow h T Tr nh) {i C n Z hN : Nat} (hI : Iv i T C n Z hN) {S c : Nat} (hSn : S < n) (hcC : c < C) (hc0 : T 19 (35 * S + 0) = nI c) : AM X l yX0_wouldTake cX0_wouldTake 2 (some .boolean) 0 0 0 [.ref (Γ 7 c), .ref (Γ 8 S)] h (qi fun r h' => r = bI (decide (T 9 c = nI 1) || (decide (T 9 c = nI 2) && decide (T 19 (35 * ix (T 10 c) + 1) < T 19 (35 * S + 1)))) ∧ h' = h) := by
  refine AM.of (by decide +kernel) (by simp [Value.category]) (Nat.le_of_ble_eq_true rfl) ?_
  show AW X l cX0_wouldTake RX0 "wouldTake" (some .boolean) 2 0 none _ 0 0 0 [some (.ref (Γ 7 c)), some (.ref (Γ 8 S))] [] h
  have h64 := hI.n64
  have h8 := hI.C8
  have h16 := hI.Z16
  have h4 := hI.h4
  have hc8 : c < 8 := by omega
  have vc := hI.vc hcC
  have vs := hI.vs hSn
  obtain ⟨g, hc, hg⟩ := hW.ch vc
  obtain ⟨gs, hs, hgs⟩ := hW.st vs hc8 hc0
  refine aw_alo 0 (pcn := 1) rfl dX0_wouldTake_0 rfl rfl (rf_some _) ?_
  refine aw_getf (pcn := 4) fl_X0_9 dX0_wouldTake_1 rfl hc rfl ?_
  refine aw_iconst (v := nI 1) (pcn := 5) dX0_wouldTake_4 rfl (by decide) ?_
  refine aw_icmp_eq (t := 37) (pcn := 8) dX0_wouldTake_5 rfl (by decide) (fun q1 => ?_) (fun q1 => ?_)
  · refine aw_iconst (v := nI 1) (pcn := 38) dX0_wouldTake_37 rfl (by decide) ?_
    refine aw_goto (t := 42) dX0_wouldTake_38 (by decide) ?_
    exact aw_zret dX0_wouldTake_42 rfl (by decide) ⟨_, rfl, ⟨by simp only [bI, q1, n21, Bool.false_eq_true, Bool.true_eq_false, reduceCtorEq, if_true, if_false, decide_true, decide_false, Bool.and_true, Bool.and_false, Bool.true_and, Bool.false_and, Bool.or_true, Bool.or_false, Bool.true_or, Bool.false_or, Bool.not_true, Bool.not_false, ← Int32.not_le, not_true_eq_false, not_false_eq_true, nI_0]; try exact nI_one, rfl⟩⟩
  · refine aw_alo 0 (pcn := 9) rfl dX0_wouldTake_8 rfl rfl (rf_some _) ?_
    refine aw_getf (pcn := 12) fl_X0_9 dX0_wouldTake_9 rfl hc rfl ?_
    refine aw_iconst (v := nI 2) (pcn := 13) dX0_wouldTake_12 rfl (by decide) ?_
    refine aw_icmp_ne (t := 41) (pcn := 16) dX0_wouldTake_13 rfl (by decide) (fun q2 => ?_) (fun q2 => ?_)
    · refine aw_iconst (v := nI 0) (pcn := 42) dX0_wouldTake_41 rfl (by decide) ?_
      exact aw_zret dX0_wouldTake_42 rfl (by decide) ⟨_, rfl, ⟨by simp only [bI, q1, q2, n21, Bool.false_eq_true, Bool.true_eq_false, reduceCtorEq, if_true, if_false, decide_true, decide_false, Bool.and_true, Bool.and_false, Bool.true_and, Bool.false_and, Bool.or_true, Bool.or_false, Bool.true_or, Bool.false_or, Bool.not_true, Bool.not_false, ← Int32.not_le, not_true_eq_false, not_false_eq_true, nI_0]; try exact nI_one, rfl⟩⟩
    · refine aw_alo 0 (pcn := 17) rfl dX0_wouldTake_16 rfl rfl (rf_some _) ?_
      refine aw_getf (pcn := 20) fl_X0_41 dX0_wouldTake_17 rfl hc rfl ?_
      have hb1 := hI.by_ hcC (ph21 q2)
      have hbn := hI.byn hcC
      obtain ⟨b, hbn2, hb2, hbc⟩ := (hI.ch hcC).2.2.2.2.1 (ph21 q2)
      obtain ⟨gb, hbo, _⟩ := hW.st (hI.vs hbn2) hc8 hbc
      rw [hb2, sref_nI (by omega)]
      refine aw_ifnull (t := 37) (pcn := 23) dX0_wouldTake_20 rfl (by decide) (rf_some _) (fun q3 => by cases q3) (fun a4 q3 => ?_)
      clear q3 a4
      refine aw_alo 0 (pcn := 24) rfl dX0_wouldTake_23 rfl rfl (rf_some _) ?_
      refine aw_getf (pcn := 27) fl_X0_41 dX0_wouldTake_24 rfl hc rfl ?_
      rw [hb2, sref_nI (by omega)]
      refine aw_getf (pcn := 30) fl_X0_38 dX0_wouldTake_27 rfl hbo rfl ?_
      refine aw_alo 1 (pcn := 31) rfl dX0_wouldTake_30 rfl rfl (rf_some _) ?_
      refine aw_getf (pcn := 34) fl_X0_38 dX0_wouldTake_31 rfl hs rfl ?_
      refine aw_icmp_ge (t := 41) (pcn := 37) dX0_wouldTake_34 rfl (by decide) (fun q5 => ?_) (fun q5 => ?_)
      · refine aw_iconst (v := nI 0) (pcn := 42) dX0_wouldTake_41 rfl (by decide) ?_
        exact aw_zret dX0_wouldTake_42 rfl (by decide) ⟨_, rfl, ⟨by rw [ix_nI (show b < 2 ^ 31 by omega)]; simp only [bI, q1, q2, q5, n21, Bool.false_eq_true, Bool.true_eq_false, reduceCtorEq, if_true, if_false, decide_true, decide_false, Bool.and_true, Bool.and_false, Bool.true_and, Bool.false_and, Bool.or_true, Bool.or_false, Bool.true_or, Bool.false_or, Bool.not_true, Bool.not_false, ← Int32.not_le, not_true_eq_false, not_false_eq_true, nI_0]; try exact nI_one, rfl⟩⟩
      · refine aw_iconst (v := nI 1) (pcn := 38) dX0_wouldTake_37 rfl (by decide) ?_
        refine aw_goto (t := 42) dX0_wouldTake_38 (by decide) ?_
        exact aw_zret dX0_wouldTake_42 rfl (by decide) ⟨_, rfl, ⟨by rw [ix_nI (show b < 2 ^ 31 by omega)]; simp only [bI, q1, q2, q5, n21, Bool.false_eq_true, Bool.true_eq_false, reduceCtorEq, if_true, if_false, decide_true, decide_false, Bool.and_true, Bool.and_false, Bool.true_and, Bool.false_and, Bool.or_true, Bool.or_false, Bool.true_or, Bool.false_or, Bool.not_true, Bool.not_false, ← Int32.not_le, not_true_eq_false, not_false_eq_true, nI_0]; try exact nI_one, rfl⟩⟩
