/-! the class's face: hops and states -/
theorem WD.inj7 {Γ : NM} {ow : Nat → Nat × Nat} {h : Hp} {T Tr : TB} {nh : Nat} (H : WD Γ ow h T Tr nh) {s s' : Nat} (hs : s < ix (T 5 0)) (hs' : s' < ix (T 5 0)) (e : Γ 7 s = Γ 7 s') : s = s' := by
  have h1 := H.1 7 s (v7 hs)
  rw [e, H.1 7 s' (v7 hs')] at h1
  exact (congrArg Prod.snd h1).symm
theorem agT_mono {T : TB} {c : Int32} {k m : Nat} (h : agT T c k = true) (hm : k ≤ m) : agT T c m = true := by
  induction m with
  | zero => rw [show k = 0 by omega] at h; exact h
  | succ m ih =>
    by_cases e : k = m + 1
    · rw [← e]; exact h
    · show (agT T c m || _) = true
      rw [ih (by omega), Bool.true_or]
theorem con_f {a : Bool} {n : Nat} {p : Prop} [Decidable p] (h : (!a && (decide (n = 0) || decide p)) = false) : a = true ∨ (0 < n ∧ ¬ p) := by
  cases a with
  | true => exact Or.inl rfl
  | false =>
    right
    simp at h
    exact ⟨by omega, h.2⟩
theorem con_t {a : Bool} {n : Nat} {p : Prop} [Decidable p] (h : (!a && (decide (n = 0) || decide p)) = true) : ¬ (a = true ∨ (0 < n ∧ ¬ p)) := by
  rintro (e | ⟨e1, e2⟩)
  · rw [e] at h; cases h
  · rw [decide_eq_false (show ¬ n = 0 by omega), decide_eq_false e2] at h
    cases a <;> cases h
theorem CE.nh {h : Hp} {Γ : NM} {T Tr : TB} {nh nh' k i : Nat} {c : AC} (hk : k ≠ 6) (H : CE h Γ T Tr nh k i c) : CE h Γ T Tr nh' k i c := by
  match k, H with
  | 0, hd => exact hd
  | 1, hd => exact hd
  | 2, hd => exact hd
  | 3, hd => exact hd
  | 4, hd => exact hd
  | 5, hd => exact hd
  | 6, hd => exact absurd rfl hk
  | 7, hd => exact hd
  | 8, hd => exact hd
  | 9, hd => exact hd
  | 10, hd => exact hd
  | 11, hd => exact hd
  | 12, hd => exact hd
  | 13, hd => exact hd
  | 14, hd => exact hd
  | k + 15, hd => exact hd
/-- one hop more is written -/
theorem WD.rouW {Γ : NM} {ow : Nat → Nat × Nat} {h : Hp} {T Tr : TB} {nh : Nat} (H : WD Γ ow h T Tr nh) {f : Nat → Option Nat} (hf : ∀ q, q < nh → HpOK h Γ T (f q) q) {a : Nat} {c F P : Int32} (ha : h a = some (ob 2 [.ref (Γ 7 (ix c)), .int F, .int P])) : WD Γ ow (hup h (Γ 6 0) (ra 2 4 (fun q => if q = nh then some a else f q))) (up (up (up T 21 nh c) 22 nh F) 23 nh P) Tr (nh + 1) := by
  refine H.put (v0 (by decide)) (vld_congr rfl rfl) ⟨_, rfl, fun q hq => ?_⟩ (fun k' i' d hv hne hd => ?_)
  · by_cases e : q = nh
    · subst e
      rw [if_pos rfl]
      exact ⟨a, rfl, by rw [up_j _ _ _ _ (by decide), up_j _ _ _ _ (by decide), up_s, up_j _ _ _ _ (by decide), up_s, up_s]; exact ha⟩
    · rw [if_neg e]
      obtain ⟨x, h1, h2⟩ := hf q (by omega)
      exact ⟨x, h1, by rw [up_j _ _ _ _ (by decide), up_j _ _ _ _ (by decide), up_i _ _ _ e, up_j _ _ _ _ (by decide), up_i _ _ _ e, up_j _ _ _ _ (by decide), up_i _ _ _ e, up_j _ _ _ _ (by decide), up_j _ _ _ _ (by decide)]; exact h2⟩
  · have hk6 : k' ≠ 6 := by
      intro e
      subst e
      unfold vld at hv
      exact hne ⟨rfl, by omega⟩
    refine CE.nh hk6 (hd.congr (fun j x q => ?_))
    have hj : j ≠ 21 ∧ j ≠ 22 ∧ j ≠ 23 := by
      unfold dp at q
      split at q <;> first | omega | exact absurd rfl hk6 | exact q.elim
    rw [up_j _ _ _ _ hj.2.2, up_j _ _ _ _ hj.2.1, up_j _ _ _ _ hj.1]
theorem ret4 {Γ : NM} {ow : Nat → Nat × Nat} {h : Hp} {Tr : TB} {f : Int32 × TB} {r : Int32} {T' : TB} {m : Nat} (e : f = (r, T')) (hW : WD Γ ow h T' Tr m) (hm : ix (T' 20 0) = m) : r = f.1 ∧ WD Γ ow h f.2 Tr (ix (f.2 20 0)) := by
  subst e
  exact ⟨rfl, by rw [hm]; exact hW⟩
theorem ret5 {Γ Γ' : NM} {ow' : Nat → Nat × Nat} {h : Hp} {T Tr : TB} {nh : Nat} {f : Int32 × TB} {r : Int32} {T' : TB} (e : f = (r, T')) (hG : ∀ k i, vld T k i → Γ' k i = Γ k i) (hW : WD Γ' ow' h T' Tr nh) : r = f.1 ∧ ∃ Γ' ow', (∀ k i, vld T k i → Γ' k i = Γ k i) ∧ WD Γ' ow' h f.2 Tr nh := by
  subst e
  exact ⟨rfl, Γ', ow', hG, hW⟩
set_option maxHeartbeats 1600000 in
set_option maxRecDepth 20000 in
theorem c_hopAtN {X : XG} {l : Launch} {Γ : NM} {ow : Nat → Nat × Nat} {h : Hp} {T Tr : TB} {nh : Nat} (hW : WD Γ ow h T Tr nh) {q : Nat} (hq : q < nh) (h4n : nh ≤ 4) : AM X l yX6_hopAt cX6_hopAt 2 (some (.object "StateChannels$Hop")) 0 0 0 [.ref (Γ 0 0), .int (nI q)] h (qr fun r h' => HpOK h Γ T r q ∧ h' = h) := by
  refine AM.of (by decide +kernel) (by simp [Value.category]) (Nat.le_of_ble_eq_true rfl) ?_
  show AW X l cX6_hopAt RX6 "hopAt" (some (.object "StateChannels$Hop")) 2 0 none _ 0 0 0 [some (.ref (Γ 0 0)), some (.int (nI q))] [] h
  obtain ⟨fr, hr1, hr2⟩ := hW.rou
  refine aw_ilo 1 (pcn := 1) rfl dX6_hopAt_0 rfl rfl ?_
  refine aw_if_lt (t := 22) (pcn := 4) dX6_hopAt_1 rfl (by decide) (fun q => absurd q (nI_pos (by omega))) (fun _ => ?_)
  refine aw_ilo 1 (pcn := 5) rfl dX6_hopAt_4 rfl rfl ?_
  refine aw_alo 0 (pcn := 6) rfl dX6_hopAt_5 rfl rfl (rf_some _) ?_
  refine aw_getf (pcn := 9) fl_X6_34 dX6_hopAt_6 rfl hW.sc rfl ?_
  refine aw_alenr (v := nI 4) (pcn := 10) dX6_hopAt_9 rfl hr1 (by decide) (by decide) ?_
  refine aw_icmp_ge (t := 22) (pcn := 13) dX6_hopAt_10 rfl (by decide) (fun q => absurd q (nI_ge (by omega) (by decide))) (fun _ => ?_)
  refine aw_alo 0 (pcn := 14) rfl dX6_hopAt_13 rfl rfl (rf_some _) ?_
  refine aw_getf (pcn := 17) fl_X6_34 dX6_hopAt_14 rfl hW.sc rfl ?_
  refine aw_ilo 1 (pcn := 18) rfl dX6_hopAt_17 rfl rfl ?_
  refine aw_aaldN (pcn := 19) (by decide) dX6_hopAt_18 rfl hr1 (by decide) (show _ < 4 by omega) ?_
  refine aw_goto (t := 23) dX6_hopAt_19 (by decide) ?_
  exact aw_aret dX6_hopAt_23 rfl (Or.inl ⟨_, rfl⟩) rfl ⟨_, rfl, hr2 q hq, rfl⟩

set_option maxHeartbeats 1600000 in
set_option maxRecDepth 20000 in
theorem c_hopAtX {X : XG} {l : Launch} {Γ : NM} {ow : Nat → Nat × Nat} {h : Hp} {T Tr : TB} {nh : Nat} (hW : WD Γ ow h T Tr nh) {hN : Nat} (hh : hN ≤ nh) (h4n : nh ≤ 4) : AM X l yX6_hopAt cX6_hopAt 2 (some (.object "StateChannels$Hop")) 0 0 0 [.ref (Γ 0 0), .int (nI hN - nI 1)] h (qr fun r h' => ((hN = 0 ∧ r = none) ∨ ∃ q, hN = q + 1 ∧ HpOK h Γ T r q) ∧ h' = h) := by
  refine AM.of (by decide +kernel) (by simp [Value.category]) (Nat.le_of_ble_eq_true rfl) ?_
  show AW X l cX6_hopAt RX6 "hopAt" (some (.object "StateChannels$Hop")) 2 0 none _ 0 0 0 [some (.ref (Γ 0 0)), some (.int (nI hN - nI 1))] [] h
  obtain ⟨fr, hr1, hr2⟩ := hW.rou
  rcases Nat.eq_zero_or_pos hN with e | e
  · subst e
    refine aw_ilo 1 (pcn := 1) rfl dX6_hopAt_0 rfl rfl ?_
    refine aw_if_lt (t := 22) (pcn := 4) dX6_hopAt_1 rfl (by decide) (fun _ => ?_) (fun q => absurd (by decide) q)
    refine aw_null (pcn := 23) dX6_hopAt_22 rfl ?_
    exact aw_aret dX6_hopAt_23 rfl (Or.inl ⟨_, rfl⟩) rf_none ⟨_, rfl, Or.inl ⟨rfl, rfl⟩, rfl⟩
  obtain ⟨q, rfl⟩ : ∃ q, hN = q + 1 := ⟨hN - 1, by omega⟩
  rw [show nI (q + 1) - nI 1 = nI q by rw [pk_sub (by omega)]; rfl]
  refine aw_ilo 1 (pcn := 1) rfl dX6_hopAt_0 rfl rfl ?_
  refine aw_if_lt (t := 22) (pcn := 4) dX6_hopAt_1 rfl (by decide) (fun q => absurd q (nI_pos (by omega))) (fun _ => ?_)
  refine aw_ilo 1 (pcn := 5) rfl dX6_hopAt_4 rfl rfl ?_
  refine aw_alo 0 (pcn := 6) rfl dX6_hopAt_5 rfl rfl (rf_some _) ?_
  refine aw_getf (pcn := 9) fl_X6_34 dX6_hopAt_6 rfl hW.sc rfl ?_
  refine aw_alenr (v := nI 4) (pcn := 10) dX6_hopAt_9 rfl hr1 (by decide) (by decide) ?_
  refine aw_icmp_ge (t := 22) (pcn := 13) dX6_hopAt_10 rfl (by decide) (fun q => absurd q (nI_ge (by omega) (by decide))) (fun _ => ?_)
  refine aw_alo 0 (pcn := 14) rfl dX6_hopAt_13 rfl rfl (rf_some _) ?_
  refine aw_getf (pcn := 17) fl_X6_34 dX6_hopAt_14 rfl hW.sc rfl ?_
  refine aw_ilo 1 (pcn := 18) rfl dX6_hopAt_17 rfl rfl ?_
  refine aw_aaldN (pcn := 19) (by decide) dX6_hopAt_18 rfl hr1 (by decide) (show _ < 4 by omega) ?_
  refine aw_goto (t := 23) dX6_hopAt_19 (by decide) ?_
  exact aw_aret dX6_hopAt_23 rfl (Or.inl ⟨_, rfl⟩) rfl ⟨_, rfl, Or.inr ⟨q, rfl, hr2 q (by omega)⟩, rfl⟩

set_option maxHeartbeats 1600000 in
set_option maxRecDepth 20000 in
theorem c_canCarry {X : XG} {l : Launch} {Γ : NM} {ow : Nat → Nat × Nat} {h : Hp} {T Tr : TB} {nh : Nat} (hW : WD Γ ow h T Tr nh) {i C n Z hN : Nat} (hI : Iv i T C n Z hN) {q a : Nat} (hq : okI (T 21 q) C) (hq2 : okI (T 22 q) 6) (ha : h a = some (ob 2 [.ref (Γ 7 (hpC T q)), .int (T 22 q), .int (T 23 q)])) (v : Int32) : AM X l yX2_canCarry cX2_canCarry 3 (some .boolean) 1 0 0 [.ref a, .int v] h (qi fun r h' => r = bI (!hbad T n v q) ∧ h' = h) := by
  refine AM.of (by decide +kernel) (by simp [Value.category]) (Nat.le_of_ble_eq_true rfl) ?_
  show AW X l cX2_canCarry RX2 "canCarry" (some .boolean) 3 1 none _ 0 0 0 [some (.ref a), some (.int v), none] [] h
  have h64 := hI.n64
  have h8 := hI.C8
  have h16 := hI.Z16
  have h4 := hI.h4
  obtain ⟨c, hcC, hc21⟩ := hq
  obtain ⟨P, hP, hP22⟩ := hq2
  have hc8 : c < 8 := by omega
  have vc := hI.vc hcC
  have hcq : hpC T q = c := by show ix (T 21 q) = c; rw [hc21, ix_nI (by omega)]
  rw [hcq] at ha
  refine aw_alo 0 (pcn := 1) rfl dX2_canCarry_0 rfl rfl (rf_some _) ?_
  refine aw_getf (pcn := 4) fl_X2_9 dX2_canCarry_1 rfl ha rfl ?_
  obtain ⟨g, hc, hg⟩ := hW.ch (c := c) vc
  refine aw_getf (pcn := 7) fl_X2_22 dX2_canCarry_4 rfl hc rfl ?_
  refine aw_ast 2 (pcn := 8) rfl dX2_canCarry_7 rfl (by decide) (rfl) ?_
  dsimp only [List.set_cons_zero, List.set_cons_succ]
  refine aw_alo 0 (pcn := 9) rfl dX2_canCarry_8 rfl rfl (rf_some _) ?_
  refine aw_getf (pcn := 12) fl_X2_9 dX2_canCarry_9 rfl ha rfl ?_
  obtain ⟨g, hc, hg⟩ := hW.ch (c := c) vc
  refine aw_getf (pcn := 15) fl_X2_28 dX2_canCarry_12 rfl hc rfl ?_
  refine aw_iconst (v := nI 1) (pcn := 16) dX2_canCarry_15 rfl (by decide) ?_
  refine aw_icmp_ne (t := 50) (pcn := 19) dX2_canCarry_16 rfl (by decide) (fun q1 => ?_) (fun q1 => ?_)
  · refine aw_iconst (v := nI 0) (pcn := 51) dX2_canCarry_50 rfl (by decide) ?_
    exact aw_zret dX2_canCarry_51 rfl (by decide) ⟨_, rfl, ⟨by unfold hbad; rw [hcq, decide_eq_false q1]; exact nI_0, rfl⟩⟩
  · refine aw_alo 2 (pcn := 20) rfl dX2_canCarry_19 rfl rfl (rfl) ?_
    obtain ⟨h25, s0, hs0n, hnw⟩ := (hI.ch hcC).2.2.2.2.2.2.2.1 (ph13 q1)
    obtain ⟨_, hs0c, _⟩ := nwT_ch h64 (by omega) hnw
    have vs := hI.vs hs0n
    rw [h25, hnw, sref_nI (by omega)]
    refine aw_ifnull (t := 50) (pcn := 23) dX2_canCarry_20 rfl (by decide) (rf_some _) (fun q2 => by cases q2) (fun a3 q2 => ?_)
    clear q2 a3
    refine aw_alo 2 (pcn := 24) rfl dX2_canCarry_23 rfl rfl (rf_some _) ?_
    obtain ⟨gs, hs, hgs⟩ := hW.st (s := s0) vs hc8 hs0c
    refine aw_getf (pcn := 27) fl_X2_31 dX2_canCarry_24 rfl hs rfl ?_
    refine aw_alo 0 (pcn := 28) rfl dX2_canCarry_27 rfl rfl (rf_some _) ?_
    refine aw_getf (pcn := 31) fl_X2_15 dX2_canCarry_28 rfl ha rfl ?_
    obtain ⟨fs, hsh1, hsh2, hsh3⟩ := hW.sh (s := s0) vs
    refine aw_Vi (pcn := 34) (c_get0 hsh1 hsh2 _) mf_X5_get mv_X5_get hsh1 rfl ml_X2_37 rfl (by decide) (by decide) (by decide) (by exact Nat.le_of_ble_eq_true rfl) rfl dX2_canCarry_31 rfl (fun r h2 hq => ?_)
    obtain ⟨rfl, hq⟩ := hq
    obtain rfl := hq.symm
    rw [hP22, sgT_nI hP, hsh3 P hP]
    refine aw_ilo 1 (pcn := 35) rfl dX2_canCarry_34 rfl rfl ?_
    refine aw_icmp_lt (t := 50) (pcn := 38) dX2_canCarry_35 rfl (by decide) (fun q4 => ?_) (fun q4 => ?_)
    · replace q4 := Int32.not_le.mpr q4
      refine aw_iconst (v := nI 0) (pcn := 51) dX2_canCarry_50 rfl (by decide) ?_
      exact aw_zret dX2_canCarry_51 rfl (by decide) ⟨_, rfl, ⟨by unfold hbad; rw [hcq, hnw, ix_nI (by omega), hP22, ix_nI (by omega)]; first | (simp [bI, q1, q4]; done) | (simp [bI, q1, q4]; exact nI_one) | (simp [bI, q1, q4]; exact nI_0) | (simp_all [bI]; done) | (simp_all [bI]; exact nI_one) | (simp_all [bI]; exact nI_0), rfl⟩⟩
    · replace q4 := Int32.not_lt.mp q4
      refine aw_alo 2 (pcn := 39) rfl dX2_canCarry_38 rfl rfl (rf_some _) ?_
      obtain ⟨gs, hs, hgs⟩ := hW.st (s := s0) vs hc8 hs0c
      refine aw_Vi (pcn := 42) (c_emptyPlace hW hI hs0n hcC hs0c) mf_X4_emptyPlace mv_X4_emptyPlace hs rfl ml_X2_43 rfl (by decide) (by decide) (by decide) (by exact Nat.le_of_ble_eq_true rfl) rfl dX2_canCarry_39 rfl (fun r h2 hq => ?_)
      obtain ⟨rfl, hq⟩ := hq
      obtain rfl := hq.symm
      refine aw_iconst (v := -1) (pcn := 43) dX2_canCarry_42 rfl (by decide) ?_
      refine aw_icmp_eq (t := 50) (pcn := 46) dX2_canCarry_43 rfl (by decide) (fun q5 => ?_) (fun q5 => ?_)
      · refine aw_iconst (v := nI 0) (pcn := 51) dX2_canCarry_50 rfl (by decide) ?_
        exact aw_zret dX2_canCarry_51 rfl (by decide) ⟨_, rfl, ⟨by unfold hbad; rw [hcq, hnw, ix_nI (by omega), hP22, ix_nI (by omega)]; first | (simp [bI, q1, q4, q5]; done) | (simp [bI, q1, q4, q5]; exact nI_one) | (simp [bI, q1, q4, q5]; exact nI_0) | (simp_all [bI]; done) | (simp_all [bI]; exact nI_one) | (simp_all [bI]; exact nI_0), rfl⟩⟩
      · refine aw_iconst (v := nI 1) (pcn := 47) dX2_canCarry_46 rfl (by decide) ?_
        refine aw_goto (t := 51) dX2_canCarry_47 (by decide) ?_
        exact aw_zret dX2_canCarry_51 rfl (by decide) ⟨_, rfl, ⟨by unfold hbad; rw [hcq, hnw, ix_nI (by omega), hP22, ix_nI (by omega)]; first | (simp [bI, q1, q4, q5]; done) | (simp [bI, q1, q4, q5]; exact nI_one) | (simp [bI, q1, q4, q5]; exact nI_0) | (simp_all [bI]; done) | (simp_all [bI]; exact nI_one) | (simp_all [bI]; exact nI_0), rfl⟩⟩

set_option maxHeartbeats 1600000 in
set_option maxRecDepth 20000 in
theorem c_continues {X : XG} {l : Launch} {Γ : NM} {ow : Nat → Nat × Nat} {h : Hp} {T Tr : TB} {nh : Nat} (hW : WD Γ ow h T Tr nh) {i C n Z hN : Nat} (hI : Iv i T C n Z hN) {c : Nat} (hcC : c < C) (hh : hN ≤ nh) (h4n : nh ≤ 4) (f : Int32) : AM X l yX6_continuesRoute cX6_continuesRoute 5 (some .boolean) 1 0 0 [.ref (Γ 0 0), .ref (Γ 7 c), .int f] h (qi fun r h' => r = bI (!agT T (nI c) hN && (decide (hN = 0) || decide (T 23 (hN - 1) = f))) ∧ h' = h) := by
  refine AM.of (by decide +kernel) (by simp [Value.category]) (Nat.le_of_ble_eq_true rfl) ?_
  show AW X l cX6_continuesRoute RX6 "continuesRoute" (some .boolean) 5 1 none _ 0 0 0 [some (.ref (Γ 0 0)), some (.ref (Γ 7 c)), some (.int f), none, none] [] h
  have h64 := hI.n64
  have h8 := hI.C8
  have h16 := hI.Z16
  have h4 := hI.h4
  have hc8 : c < 8 := by omega
  have vc := hI.vc hcC
  have hk21 : ∀ {k : Nat}, k < hN → ix (T 21 k) < C ∧ T 21 k = nI (ix (T 21 k)) ∧ (Γ 7 (ix (T 21 k)) = Γ 7 c → T 21 k = nI c) := fun {k} hk => by
    obtain ⟨x1, x2⟩ := (hI.2.1.1 k hk).1.ix (by omega)
    exact ⟨x2, x1, fun e => by rw [x1, hW.inj7 (hI.vc x2) vc e]⟩
  refine aw_iconst (v := nI 0) (pcn := 1) dX6_continuesRoute_0 rfl (by decide) ?_
  refine aw_ist 3 (pcn := 2) rfl dX6_continuesRoute_1 rfl (by decide) ?_
  dsimp only [List.set_cons_zero, List.set_cons_succ]
  have H : ∀ (m k : Nat), k + m = hN → agT T (nI c) k = false → ∀ x, AW X l cX6_continuesRoute RX6 "continuesRoute" (some .boolean) 5 1 none (qi fun r h' => r = bI (!agT T (nI c) hN && (decide (hN = 0) || decide (T 23 (hN - 1) = f))) ∧ h' = h) 0 0 2 [some (.ref (Γ 0 0)), some (.ref (Γ 7 c)), some (.int f), some (.int (nI k)), x] [] h := by
    intro m
    induction m with
    | zero  =>
      intro k hk hag x
      obtain rfl : hN = k := by omega
      refine aw_ilo 3 (pcn := 3) rfl dX6_continuesRoute_2 rfl rfl ?_
      refine aw_alo 0 (pcn := 4) rfl dX6_continuesRoute_3 rfl rfl (rf_some _) ?_
      refine aw_getf (pcn := 7) fl_X6_329 dX6_continuesRoute_4 rfl hW.sc rfl ?_
      rw [hI.h20]
      refine aw_icmp_ge (t := 39) (pcn := 10) dX6_continuesRoute_7 rfl (by decide) (fun _ => ?_) (fun q => absurd (Int32.le_refl _) q)
      refine aw_alo 0 (pcn := 40) rfl dX6_continuesRoute_39 rfl rfl (rf_some _) ?_
      refine aw_alo 0 (pcn := 41) rfl dX6_continuesRoute_40 rfl rfl (rf_some _) ?_
      refine aw_getf (pcn := 44) fl_X6_329 dX6_continuesRoute_41 rfl hW.sc rfl ?_
      refine aw_iconst (v := nI 1) (pcn := 45) dX6_continuesRoute_44 rfl (by decide) ?_
      rw [hI.h20]
      refine aw_isub (pcn := 46) dX6_continuesRoute_45 rfl ?_
      refine aw_Vr (pcn := 49) (c_hopAtX hW hh h4n) mf_X6_hopAt mv_X6_hopAt hW.sc rfl ml_X6_338 rfl (by decide) (by decide) (by decide) (by exact Nat.le_of_ble_eq_true rfl) rfl dX6_continuesRoute_46 rfl (fun r h2 hq => ?_)
      obtain ⟨hq, hh⟩ := hq
      obtain rfl := hh.symm
      rcases hq with ⟨e0, rfl⟩ | ⟨q, e0, a, rfl, ha⟩
      · refine aw_ast 3 (pcn := 50) rfl dX6_continuesRoute_49 rfl (by decide) (rf_none) ?_
        dsimp only [List.set_cons_zero, List.set_cons_succ]
        refine aw_alo 3 (pcn := 51) rfl dX6_continuesRoute_50 rfl rfl (rf_none) ?_
        refine aw_ifnull (t := 62) (pcn := 54) dX6_continuesRoute_51 rfl (by decide) (rf_none) (fun q1 => ?_) (fun a2 q1 => by cases q1)
        clear q1
        refine aw_iconst (v := nI 1) (pcn := 63) dX6_continuesRoute_62 rfl (by decide) ?_
        refine aw_goto (t := 67) dX6_continuesRoute_63 (by decide) ?_
        exact aw_zret dX6_continuesRoute_67 rfl (by decide) ⟨_, rfl, ⟨by rw [hag]; first | (simp [bI, e0, e0]; done) | (simp [bI, e0, e0]; exact nI_one) | (simp [bI, e0, e0]; exact nI_0) | (simp [bI, e0]; done) | (simp [bI, e0]; exact nI_one), rfl⟩⟩
      · refine aw_ast 3 (pcn := 50) rfl dX6_continuesRoute_49 rfl (by decide) (rf_some _) ?_
        dsimp only [List.set_cons_zero, List.set_cons_succ]
        refine aw_alo 3 (pcn := 51) rfl dX6_continuesRoute_50 rfl rfl (rf_some _) ?_
        refine aw_ifnull (t := 62) (pcn := 54) dX6_continuesRoute_51 rfl (by decide) (rf_some _) (fun q3 => by cases q3) (fun a4 q3 => ?_)
        clear q3 a4
        refine aw_alo 3 (pcn := 55) rfl dX6_continuesRoute_54 rfl rfl (rf_some _) ?_
        refine aw_getf (pcn := 58) fl_X6_345 dX6_continuesRoute_55 rfl ha rfl ?_
        refine aw_ilo 2 (pcn := 59) rfl dX6_continuesRoute_58 rfl rfl ?_
        refine aw_icmp_ne (t := 66) (pcn := 62) dX6_continuesRoute_59 rfl (by decide) (fun q5 => ?_) (fun q5 => ?_)
        · refine aw_iconst (v := nI 0) (pcn := 67) dX6_continuesRoute_66 rfl (by decide) ?_
          exact aw_zret dX6_continuesRoute_67 rfl (by decide) ⟨_, rfl, ⟨by rw [hag]; first | (simp [bI, e0, q5]; done) | (simp [bI, e0, q5]; exact nI_one) | (simp [bI, e0, q5]; exact nI_0) | (simp [bI, e0]; done) | (simp [bI, e0]; exact nI_one), rfl⟩⟩
        · refine aw_iconst (v := nI 1) (pcn := 63) dX6_continuesRoute_62 rfl (by decide) ?_
          refine aw_goto (t := 67) dX6_continuesRoute_63 (by decide) ?_
          exact aw_zret dX6_continuesRoute_67 rfl (by decide) ⟨_, rfl, ⟨by rw [hag]; first | (simp [bI, e0, q5]; done) | (simp [bI, e0, q5]; exact nI_one) | (simp [bI, e0, q5]; exact nI_0) | (simp [bI, e0]; done) | (simp [bI, e0]; exact nI_one), rfl⟩⟩
    | succ m ih =>
      intro k hk hag x
      refine aw_ilo 3 (pcn := 3) rfl dX6_continuesRoute_2 rfl rfl ?_
      refine aw_alo 0 (pcn := 4) rfl dX6_continuesRoute_3 rfl rfl (rf_some _) ?_
      refine aw_getf (pcn := 7) fl_X6_329 dX6_continuesRoute_4 rfl hW.sc rfl ?_
      rw [hI.h20]
      refine aw_icmp_ge (t := 39) (pcn := 10) dX6_continuesRoute_7 rfl (by decide) (fun q => absurd q (nI_ge (by omega) (by omega))) (fun _ => ?_)
      refine aw_alo 0 (pcn := 11) rfl dX6_continuesRoute_10 rfl rfl (rf_some _) ?_
      refine aw_ilo 3 (pcn := 12) rfl dX6_continuesRoute_11 rfl rfl ?_
      refine aw_Vr (pcn := 15) (c_hopAtN hW (q := k) (by omega) h4n) mf_X6_hopAt mv_X6_hopAt hW.sc rfl ml_X6_338 rfl (by decide) (by decide) (by decide) (by exact Nat.le_of_ble_eq_true rfl) rfl dX6_continuesRoute_12 rfl (fun r h2 hq => ?_)
      obtain ⟨hq, hh⟩ := hq
      obtain rfl := hh.symm
      rcases hq with ⟨a, rfl, ha⟩
      · refine aw_astore (pcn := 17) dX6_continuesRoute_15 rfl (by decide) (rf_some _) ?_
        dsimp only [List.set_cons_zero, List.set_cons_succ]
        refine aw_aload (pcn := 19) dX6_continuesRoute_17 rfl rfl (rf_some _) ?_
        refine aw_ifnull (t := 33) (pcn := 22) dX6_continuesRoute_19 rfl (by decide) (rf_some _) (fun q6 => by cases q6) (fun a7 q6 => ?_)
        clear q6 a7
        refine aw_aload (pcn := 24) dX6_continuesRoute_22 rfl rfl (rf_some _) ?_
        refine aw_getf (pcn := 27) fl_X6_354 dX6_continuesRoute_24 rfl ha rfl ?_
        refine aw_alo 1 (pcn := 28) rfl dX6_continuesRoute_27 rfl rfl (rf_some _) ?_
        refine aw_acmp_ne (t := 33) (pcn := 31) dX6_continuesRoute_28 rfl (by decide) (rf_some _) (rf_some _) (fun q8 => ?_) (fun q8 => ?_)
        · refine aw_iincN (pcn := 36) dX6_continuesRoute_33 rfl (by decide) rfl ?_
          dsimp only [List.set_cons_zero, List.set_cons_succ]
          refine aw_goto (t := 2) dX6_continuesRoute_36 (by decide) ?_
          exact ih (k + 1) (by omega) (by show (agT T (nI c) k || decide (T 21 k = nI c)) = false; rw [hag, decide_eq_false (fun e => q8 (show some (Γ 7 (ix (T 21 k))) = some (Γ 7 c) by rw [e, ix_nI (by omega)]))]; rfl) _
        · refine aw_iconst (v := nI 0) (pcn := 32) dX6_continuesRoute_31 rfl (by decide) ?_
          exact aw_zret dX6_continuesRoute_32 rfl (by decide) ⟨_, rfl, ⟨by rw [agT_mono (k := k + 1) (m := hN) (show (agT T (nI c) k || decide (T 21 k = nI c)) = true by rw [(hk21 (by omega)).2.2 (Option.some.inj (show some (Γ 7 (ix (T 21 k))) = some (Γ 7 c) from q8)), decide_eq_true rfl, Bool.or_true]) (by omega)]; exact nI_0, rfl⟩⟩
  exact H hN 0 (by omega) rfl none

theorem hbA_up {T : TB} {n : Nat} {v : Int32} {k m : Nat} (h : hbA T n v k = true) (hm : k ≤ m) : hbA T n v m = true := by
  induction m with
  | zero => rw [show k = 0 by omega] at h; exact h
  | succ m ih =>
    by_cases e : k = m + 1
    · rw [← e]; exact h
    · show (hbA T n v m || _) = true
      rw [ih (by omega), Bool.true_or]
set_option maxHeartbeats 1600000 in
set_option maxRecDepth 20000 in
theorem c_allCarry {X : XG} {l : Launch} {Γ : NM} {ow : Nat → Nat × Nat} {h : Hp} {T Tr : TB} {nh : Nat} (hW : WD Γ ow h T Tr nh) {i C n Z hN : Nat} (hI : Iv i T C n Z hN) {hM : Nat} (hH : IvH T C hM) (hh : hM ≤ nh) (h4n : nh ≤ 4) (v : Int32) : AM X l yX6_allCarry cX6_allCarry 5 (some .boolean) 2 0 0 [.ref (Γ 0 0), .int (nI hM), .int v] h (qi fun r h' => r = bI (!hbA T n v hM) ∧ h' = h) := by
  refine AM.of (by decide +kernel) (by simp [Value.category]) (Nat.le_of_ble_eq_true rfl) ?_
  show AW X l cX6_allCarry RX6 "allCarry" (some .boolean) 5 2 none _ 0 0 0 [some (.ref (Γ 0 0)), some (.int (nI hM)), some (.int v), none, none] [] h
  have h64 := hI.n64
  have h8 := hI.C8
  have h16 := hI.Z16
  have h4 := hI.h4
  refine aw_iconst (v := nI 0) (pcn := 1) dX6_allCarry_0 rfl (by decide) ?_
  refine aw_ist 3 (pcn := 2) rfl dX6_allCarry_1 rfl (by decide) ?_
  dsimp only [List.set_cons_zero, List.set_cons_succ]
  have H : ∀ (m k : Nat), k + m = hM → hbA T n v k = false → ∀ x, AW X l cX6_allCarry RX6 "allCarry" (some .boolean) 5 2 none (qi fun r h' => r = bI (!hbA T n v hM) ∧ h' = h) 0 0 2 [some (.ref (Γ 0 0)), some (.int (nI hM)), some (.int v), some (.int (nI k)), x] [] h := by
    intro m
    induction m with
    | zero  =>
      intro k hk hag x
      obtain rfl : hM = k := by omega
      refine aw_ilo 3 (pcn := 3) rfl dX6_allCarry_2 rfl rfl ?_
      refine aw_ilo 1 (pcn := 4) rfl dX6_allCarry_3 rfl rfl ?_
      refine aw_icmp_ge (t := 36) (pcn := 7) dX6_allCarry_4 rfl (by decide) (fun _ => ?_) (fun q => absurd (Int32.le_refl _) q)
      refine aw_iconst (v := nI 1) (pcn := 37) dX6_allCarry_36 rfl (by decide) ?_
      exact aw_zret dX6_allCarry_37 rfl (by decide) ⟨_, rfl, ⟨by rw [hag]; exact nI_one, rfl⟩⟩
    | succ m ih =>
      intro k hk hag x
      refine aw_ilo 3 (pcn := 3) rfl dX6_allCarry_2 rfl rfl ?_
      refine aw_ilo 1 (pcn := 4) rfl dX6_allCarry_3 rfl rfl ?_
      refine aw_icmp_ge (t := 36) (pcn := 7) dX6_allCarry_4 rfl (by decide) (fun q => absurd q (nI_ge (by omega) (by omega))) (fun _ => ?_)
      refine aw_alo 0 (pcn := 8) rfl dX6_allCarry_7 rfl rfl (rf_some _) ?_
      refine aw_ilo 3 (pcn := 9) rfl dX6_allCarry_8 rfl rfl ?_
      refine aw_Vr (pcn := 12) (c_hopAtN hW (q := k) (by omega) h4n) mf_X6_hopAt mv_X6_hopAt hW.sc rfl ml_X6_338 rfl (by decide) (by decide) (by decide) (by exact Nat.le_of_ble_eq_true rfl) rfl dX6_allCarry_9 rfl (fun r h2 hq => ?_)
      obtain ⟨hq, hh⟩ := hq
      obtain rfl := hh.symm
      rcases hq with ⟨a, rfl, ha⟩
      · refine aw_astore (pcn := 14) dX6_allCarry_12 rfl (by decide) (rf_some _) ?_
        dsimp only [List.set_cons_zero, List.set_cons_succ]
        refine aw_aload (pcn := 16) dX6_allCarry_14 rfl rfl (rf_some _) ?_
        refine aw_ifnull (t := 28) (pcn := 19) dX6_allCarry_16 rfl (by decide) (rf_some _) (fun q1 => by cases q1) (fun a2 q1 => ?_)
        clear q1 a2
        refine aw_aload (pcn := 21) dX6_allCarry_19 rfl rfl (rf_some _) ?_
        refine aw_ilo 2 (pcn := 22) rfl dX6_allCarry_21 rfl rfl ?_
        refine aw_Vi (pcn := 25) (c_canCarry hW hI (q := k) (hH.1 k (by omega)).1 (hH.1 k (by omega)).2.1 ha v) mf_X2_canCarry mv_X2_canCarry ha rfl ml_X6_355 rfl (by decide) (by decide) (by decide) (by exact Nat.le_of_ble_eq_true rfl) rfl dX6_allCarry_22 rfl (fun r h2 hq => ?_)
        obtain ⟨rfl, hq⟩ := hq
        obtain rfl := hq.symm
        refine aw_if_neB (t := 30) (pcn := 28) dX6_allCarry_25 rfl (by decide) (fun q3 => ?_) (fun q3 => ?_)
        · refine aw_iincN (pcn := 33) dX6_allCarry_30 rfl (by decide) rfl ?_
          dsimp only [List.set_cons_zero, List.set_cons_succ]
          refine aw_goto (t := 2) dX6_allCarry_33 (by decide) ?_
          exact ih (k + 1) (by omega) (by show (hbA T n v k || hbad T n v k) = false; rw [hag]; cases e : hbad T n v k with | false => rfl | true => rw [e] at q3; cases q3) _
        · refine aw_iconst (v := nI 0) (pcn := 29) dX6_allCarry_28 rfl (by decide) ?_
          exact aw_zret dX6_allCarry_29 rfl (by decide) ⟨_, rfl, ⟨by rw [hbA_up (k := k + 1) (m := hM) (show (hbA T n v k || hbad T n v k) = true by cases e : hbad T n v k with | true => exact Bool.or_true _ | false => rw [e] at q3; cases q3) (by omega)]; exact nI_0, rfl⟩⟩
  exact H hM 0 (by omega) rfl none

set_option maxHeartbeats 1600000 in
set_option maxRecDepth 20000 in
theorem c_firstExpiry {X : XG} {l : Launch} {Γ : NM} {ow : Nat → Nat × Nat} {h : Hp} {T Tr : TB} {nh : Nat} (hW : WD Γ ow h T Tr nh) {i C n Z hN : Nat} (hI : Iv i T C n Z hN) {hM : Nat} (hH : IvH T C hM) (hh : hM ≤ nh) (h4n : nh ≤ 4) (hpos : 0 < hM) (e : Int32) : AM X l yX6_firstExpiry cX6_firstExpiry 6 (some .int) 1 0 0 [.ref (Γ 0 0), .int (nI hM), .int e] h (qi fun r h' => r = endE T e (hM - 1) ∧ h' = h) := by
  refine AM.of (by decide +kernel) (by simp [Value.category]) (Nat.le_of_ble_eq_true rfl) ?_
  show AW X l cX6_firstExpiry RX6 "firstExpiry" (some .int) 6 1 none _ 0 0 0 [some (.ref (Γ 0 0)), some (.int (nI hM)), some (.int e), none, none, none] [] h
  have h64 := hI.n64
  have h8 := hI.C8
  have h16 := hI.Z16
  have h4 := hI.h4
  refine aw_ilo 2 (pcn := 1) rfl dX6_firstExpiry_0 rfl rfl ?_
  refine aw_ist 3 (pcn := 2) rfl dX6_firstExpiry_1 rfl (by decide) ?_
  dsimp only [List.set_cons_zero, List.set_cons_succ]
  refine aw_iconst (v := nI 0) (pcn := 3) dX6_firstExpiry_2 rfl (by decide) ?_
  refine aw_istore (pcn := 5) dX6_firstExpiry_3 rfl (by decide) ?_
  dsimp only [List.set_cons_zero, List.set_cons_succ]
  have H : ∀ (m k : Nat), k + m = (hM - 1) → ∀ x, AW X l cX6_firstExpiry RX6 "firstExpiry" (some .int) 6 1 none (qi fun r h' => r = endE T e (hM - 1) ∧ h' = h) 0 0 5 [some (.ref (Γ 0 0)), some (.int (nI hM)), some (.int e), some (.int (endE T e k)), some (.int (nI k)), x] [] h := by
    intro m
    induction m with
    | zero  =>
      intro k hk x
      obtain rfl : k = hM - 1 := by omega
      refine aw_iload (pcn := 7) dX6_firstExpiry_5 rfl rfl ?_
      refine aw_ilo 1 (pcn := 8) rfl dX6_firstExpiry_7 rfl rfl ?_
      refine aw_iconst (v := nI 1) (pcn := 9) dX6_firstExpiry_8 rfl (by decide) ?_
      refine aw_isub (pcn := 10) dX6_firstExpiry_9 rfl ?_
      rw [pk_sub (show 1 ≤ hM by omega)]
      refine aw_icmp_ge (t := 45) (pcn := 13) dX6_firstExpiry_10 rfl (by decide) (fun _ => ?_) (fun q => absurd (Int32.le_refl _) q)
      refine aw_ilo 3 (pcn := 46) rfl dX6_firstExpiry_45 rfl rfl ?_
      exact aw_iret dX6_firstExpiry_46 rfl ⟨_, rfl, ⟨rfl, rfl⟩⟩
    | succ m ih =>
      intro k hk x
      refine aw_iload (pcn := 7) dX6_firstExpiry_5 rfl rfl ?_
      refine aw_ilo 1 (pcn := 8) rfl dX6_firstExpiry_7 rfl rfl ?_
      refine aw_iconst (v := nI 1) (pcn := 9) dX6_firstExpiry_8 rfl (by decide) ?_
      refine aw_isub (pcn := 10) dX6_firstExpiry_9 rfl ?_
      rw [pk_sub (show 1 ≤ hM by omega)]
      refine aw_icmp_ge (t := 45) (pcn := 13) dX6_firstExpiry_10 rfl (by decide) (fun q => absurd q (nI_ge (by omega) (by omega))) (fun _ => ?_)
      refine aw_alo 0 (pcn := 14) rfl dX6_firstExpiry_13 rfl rfl (rf_some _) ?_
      refine aw_iload (pcn := 16) dX6_firstExpiry_14 rfl rfl ?_
      refine aw_Vr (pcn := 19) (c_hopAtN hW (q := k) (by omega) h4n) mf_X6_hopAt mv_X6_hopAt hW.sc rfl ml_X6_338 rfl (by decide) (by decide) (by decide) (by exact Nat.le_of_ble_eq_true rfl) rfl dX6_firstExpiry_16 rfl (fun r h2 hq => ?_)
      obtain ⟨hq, hh⟩ := hq
      obtain rfl := hh.symm
      rcases hq with ⟨a, rfl, ha⟩
      · refine aw_astore (pcn := 21) dX6_firstExpiry_19 rfl (by decide) (rf_some _) ?_
        dsimp only [List.set_cons_zero, List.set_cons_succ]
        refine aw_aload (pcn := 23) dX6_firstExpiry_21 rfl rfl (rf_some _) ?_
        refine aw_ifnull (t := 39) (pcn := 26) dX6_firstExpiry_23 rfl (by decide) (rf_some _) (fun q1 => by cases q1) (fun a2 q1 => ?_)
        clear q1 a2
        refine aw_ilo 3 (pcn := 27) rfl dX6_firstExpiry_26 rfl rfl ?_
        refine aw_aload (pcn := 29) dX6_firstExpiry_27 rfl rfl (rf_some _) ?_
        refine aw_getf (pcn := 32) fl_X6_354 dX6_firstExpiry_29 rfl ha rfl ?_
        obtain ⟨g, hc, hg⟩ := hW.ch (c := ix (T 21 k)) (hI.vc ((hH.1 k (by omega)).1.ix (by omega)).2)
        refine aw_getf (pcn := 35) fl_X6_227 dX6_firstExpiry_32 rfl hc rfl ?_
        refine aw_iconst (v := nI 1) (pcn := 36) dX6_firstExpiry_35 rfl (by decide) ?_
        refine aw_iadd (pcn := 37) dX6_firstExpiry_36 rfl ?_
        refine aw_iadd (pcn := 38) dX6_firstExpiry_37 rfl ?_
        refine aw_ist 3 (pcn := 39) rfl dX6_firstExpiry_38 rfl (by decide) ?_
        dsimp only [List.set_cons_zero, List.set_cons_succ]
        refine aw_iincN (pcn := 42) dX6_firstExpiry_39 rfl (by decide) rfl ?_
        dsimp only [List.set_cons_zero, List.set_cons_succ]
        refine aw_goto (t := 5) dX6_firstExpiry_42 (by decide) ?_
        exact ih (k + 1) (by omega) _
  exact H (hM - 1) 0 (by omega) none

set_option maxHeartbeats 1600000 in
set_option maxRecDepth 20000 in
theorem c_a_hop {X : XG} {l : Launch} {Γ : NM} {ow : Nat → Nat × Nat} {h : Hp} {T Tr : TB} {nh : Nat} (hW : WD Γ ow h T Tr nh) {i C n Z hN : Nat} (hI : Iv i T C n Z hN) (cc f t : Int32) (hnh : hN = nh) : AM X l yX6_hop cX6_hop 5 (some .int) 2 1 3 [.ref (Γ 0 0), .int cc, .int f, .int t] h (qi fun r h' => r = (hopT T hN cc f t).1 ∧ WD Γ ow h' (hopT T hN cc f t).2 Tr (ix ((hopT T hN cc f t).2 20 0))) := by
  refine AM.of (by decide +kernel) (by simp [Value.category]) (Nat.le_of_ble_eq_true rfl) ?_
  show AW X l cX6_hop RX6 "hop" (some .int) 5 2 none _ 1 3 0 [some (.ref (Γ 0 0)), some (.int cc), some (.int f), some (.int t), none] [] h
  have h64 := hI.n64
  have h8 := hI.C8
  have h16 := hI.Z16
  have h4 := hI.h4
  subst hnh
  obtain ⟨frx, hr1x, _⟩ := hW.rou
  refine aw_alo 0 (pcn := 1) rfl dX6_hop_0 rfl rfl (rf_some _) ?_
  refine aw_ilo 1 (pcn := 2) rfl dX6_hop_1 rfl rfl ?_
  refine aw_Vr (pcn := 5) (c_channelAt hW hI _) mf_X6_channelAt mv_X6_channelAt hW.sc rfl ml_X6_93 rfl (by decide) (by decide) (by decide) (by exact Nat.le_of_ble_eq_true rfl) rfl dX6_hop_2 rfl (fun r h2 hq => ?_)
  obtain ⟨hq, hh⟩ := hq
  obtain rfl := hh.symm
  rcases hq with ⟨e0, rfl⟩ | ⟨c, hcC, rfl, hct, rfl⟩
  · refine aw_astore (pcn := 7) dX6_hop_5 rfl (by decide) (rf_none) ?_
    dsimp only [List.set_cons_zero, List.set_cons_succ]
    refine aw_aload (pcn := 9) dX6_hop_7 rfl rfl (rf_none) ?_
    refine aw_ifnull (t := 30) (pcn := 12) dX6_hop_9 rfl (by decide) (rf_none) (fun q1 => ?_) (fun a2 q1 => by cases q1)
    clear q1
    refine aw_iconst (v := -1) (pcn := 31) dX6_hop_30 rfl (by decide) ?_
    exact aw_iret dX6_hop_31 rfl ⟨_, rfl, ret4 (by simp only [hopT, e0, Bool.false_eq_true, Bool.true_eq_false, reduceCtorEq, if_true, if_false, or_false, false_or, or_true, true_or, and_true, true_and, and_false, false_and, not_true_eq_false, not_false_eq_true, or_self, ← Int32.not_le, shiT]) hW (by rw [hI.h20, ix_nI (by omega)])⟩
  · have hc8 : c < 8 := by omega
    have vc := hI.vc hcC
    refine aw_astore (pcn := 7) dX6_hop_5 rfl (by decide) (rf_some _) ?_
    dsimp only [List.set_cons_zero, List.set_cons_succ]
    refine aw_aload (pcn := 9) dX6_hop_7 rfl rfl (rf_some _) ?_
    refine aw_ifnull (t := 30) (pcn := 12) dX6_hop_9 rfl (by decide) (rf_some _) (fun q3 => by cases q3) (fun a4 q3 => ?_)
    clear q3 a4
    refine aw_aload (pcn := 14) dX6_hop_12 rfl rfl (rf_some _) ?_
    refine aw_ilo 2 (pcn := 15) rfl dX6_hop_14 rfl rfl ?_
    obtain ⟨g, hc, hg⟩ := hW.ch (c := c) vc
    refine aw_Vi (pcn := 18) (c_hasM0 hW hI hcC _) mf_X0_hasMember mv_X0_hasMember hc rfl ml_X6_71 rfl (by decide) (by decide) (by decide) (by exact Nat.le_of_ble_eq_true rfl) rfl dX6_hop_15 rfl (fun r h2 hq => ?_)
    obtain ⟨rfl, hq⟩ := hq
    obtain rfl := hq.symm
    refine aw_if_eqB (t := 30) (pcn := 21) dX6_hop_18 rfl (by decide) (fun q5 => ?_) (fun q5 => ?_)
    · refine aw_iconst (v := -1) (pcn := 31) dX6_hop_30 rfl (by decide) ?_
      exact aw_iret dX6_hop_31 rfl ⟨_, rfl, ret4 (by simp only [hopT, hct, q5, ix_nI (show c < 2 ^ 31 by omega), Bool.false_eq_true, Bool.true_eq_false, reduceCtorEq, if_true, if_false, or_false, false_or, or_true, true_or, and_true, true_and, and_false, false_and, not_true_eq_false, not_false_eq_true, or_self, ← Int32.not_le, shiT]) hW (by rw [hI.h20, ix_nI (by omega)])⟩
    · refine aw_aload (pcn := 23) dX6_hop_21 rfl rfl (rf_some _) ?_
      refine aw_ilo 3 (pcn := 24) rfl dX6_hop_23 rfl rfl ?_
      obtain ⟨g, hc, hg⟩ := hW.ch (c := c) vc
      refine aw_Vi (pcn := 27) (c_hasM0 hW hI hcC _) mf_X0_hasMember mv_X0_hasMember hc rfl ml_X6_71 rfl (by decide) (by decide) (by decide) (by exact Nat.le_of_ble_eq_true rfl) rfl dX6_hop_24 rfl (fun r h2 hq => ?_)
      obtain ⟨rfl, hq⟩ := hq
      obtain rfl := hq.symm
      refine aw_if_neB (t := 32) (pcn := 30) dX6_hop_27 rfl (by decide) (fun q6 => ?_) (fun q6 => ?_)
      · refine aw_aload (pcn := 34) dX6_hop_32 rfl rfl (rf_some _) ?_
        obtain ⟨g, hc, hg⟩ := hW.ch (c := c) vc
        refine aw_getf (pcn := 37) fl_X6_97 dX6_hop_34 rfl hc rfl ?_
        refine aw_iconst (v := nI 1) (pcn := 38) dX6_hop_37 rfl (by decide) ?_
        refine aw_icmp_eq (t := 44) (pcn := 41) dX6_hop_38 rfl (by decide) (fun q7 => ?_) (fun q7 => ?_)
        · refine aw_alo 0 (pcn := 45) rfl dX6_hop_44 rfl rfl (rf_some _) ?_
          refine aw_getf (pcn := 48) fl_X6_329 dX6_hop_45 rfl hW.sc rfl ?_
          rw [hI.h20]
          refine aw_alo 0 (pcn := 49) rfl dX6_hop_48 rfl rfl (rf_some _) ?_
          refine aw_getf (pcn := 52) fl_X6_34 dX6_hop_49 rfl hW.sc rfl ?_
          refine aw_alenr (v := nI 4) (pcn := 53) dX6_hop_52 rfl hr1x (by decide) (by decide) ?_
          refine aw_icmp_ge (t := 71) (pcn := 56) dX6_hop_53 rfl (by decide) (fun q8 => ?_) (fun q8 => ?_)
          · refine aw_bipush (v := -4) (pcn := 73) dX6_hop_71 rfl (by decide) ?_
            exact aw_iret dX6_hop_73 rfl ⟨_, rfl, ret4 (by rw [hopT_eq hc8 (by assumption) (by assumption) (by assumption), if_neg (Classical.not_not.mpr q7), if_pos (Or.inl (by have e := q8; rw [nI_leI (by omega) (by omega)] at e; omega))]) hW (by rw [hI.h20, ix_nI (by omega)])⟩
          · refine aw_ilo 2 (pcn := 57) rfl dX6_hop_56 rfl rfl ?_
            refine aw_ilo 3 (pcn := 58) rfl dX6_hop_57 rfl rfl ?_
            refine aw_icmp_eq (t := 71) (pcn := 61) dX6_hop_58 rfl (by decide) (fun q9 => ?_) (fun q9 => ?_)
            · refine aw_bipush (v := -4) (pcn := 73) dX6_hop_71 rfl (by decide) ?_
              exact aw_iret dX6_hop_73 rfl ⟨_, rfl, ret4 (by rw [hopT_eq hc8 (by assumption) (by assumption) (by assumption), if_neg (Classical.not_not.mpr q7), if_pos (Or.inr (Or.inl q9))]) hW (by rw [hI.h20, ix_nI (by omega)])⟩
            · refine aw_alo 0 (pcn := 62) rfl dX6_hop_61 rfl rfl (rf_some _) ?_
              refine aw_aload (pcn := 64) dX6_hop_62 rfl rfl (rf_some _) ?_
              refine aw_ilo 2 (pcn := 65) rfl dX6_hop_64 rfl rfl ?_
              refine aw_Vi (pcn := 68) (c_continues hW hI hcC (Nat.le_refl _) h4 _) mf_X6_continuesRoute mv_X6_continuesRoute hW.sc rfl ml_X6_332 rfl (by decide) (by decide) (by decide) (by exact Nat.le_of_ble_eq_true rfl) rfl dX6_hop_65 rfl (fun r h2 hq => ?_)
              obtain ⟨rfl, hq⟩ := hq
              obtain rfl := hq.symm
              refine aw_if_neB (t := 74) (pcn := 71) dX6_hop_68 rfl (by decide) (fun q10 => ?_) (fun q10 => ?_)
              · refine aw_alo 0 (pcn := 75) rfl dX6_hop_74 rfl rfl (rf_some _) ?_
                refine aw_getf (pcn := 78) fl_X6_34 dX6_hop_75 rfl hW.sc rfl ?_
                refine aw_alo 0 (pcn := 79) rfl dX6_hop_78 rfl rfl (rf_some _) ?_
                refine aw_getf (pcn := 82) fl_X6_329 dX6_hop_79 rfl hW.sc rfl ?_
                have hh4 : hN < 4 := by
                  have e := q8
                  rw [nI_leI (by omega) (by omega)] at e
                  omega
                rw [hI.h20]
                refine aw_new 3 (pcn := 85) nw_X6_32 rfl dX6_hop_82 rfl (by decide) (by decide) (fun a za => ?_)
                refine aw_dup (pcn := 86) dX6_hop_85 rfl rfl ?_
                refine aw_aload (pcn := 88) dX6_hop_86 rfl rfl (rf_some _) ?_
                refine aw_ilo 2 (pcn := 89) rfl dX6_hop_88 rfl rfl ?_
                refine aw_ilo 3 (pcn := 90) rfl dX6_hop_89 rfl rfl ?_
                refine aw_Iv (rty := none) (pcn := 93) (c_Hop (hup_s _ _ _) f t) mf_X2_init mv_X2_init rfl ml_X6_336 rfl (by decide) (by decide) (by decide) (by exact Nat.le_of_ble_eq_true rfl) rfl dX6_hop_90 rfl (fun h2 hq => ?_)
                rw [hup_hup] at hq
                have hW := hW.made (c := ob 2 [.ref (Γ 7 c), .int f, .int t]) za
                rw [← hq] at hW
                have ha : h2 a = some (ob 2 [.ref (Γ 7 c), .int f, .int t]) := by rw [hq]; exact hup_s _ _ _
                obtain ⟨fr, hr1, hr2⟩ := hW.rou
                refine aw_aast (pcn := 94) dX6_hop_93 rfl hr1 (by decide) (vp_in_nI hh4 (by decide)) ha ?_
                rw [nI_clamp (by omega)]
                have hW := hW.rouW (c := nI c) hr2 (by rw [ix_nI (by omega)]; exact ha)
                obtain ⟨h3, e3⟩ : ∃ x, x = hup h2 (Γ 6 0) (ra 2 4 (fun q => if q = hN then some a else fr q)) := ⟨_, rfl⟩
                rw [← e3] at hW
                show AW _ _ _ _ _ _ _ _ _ _ _ _ _ _ _ (hup h2 (Γ 6 0) (ra 2 4 (fun q => if q = hN then some a else fr q)))
                rw [← e3]
                refine aw_alo 0 (pcn := 95) rfl dX6_hop_94 rfl rfl (rf_some _) ?_
                refine aw_dup (pcn := 96) dX6_hop_95 rfl rfl ?_
                refine aw_getf (pcn := 99) fl_X6_329 dX6_hop_96 rfl hW.sc rfl ?_
                rw [up_j _ _ _ _ (by decide), up_j _ _ _ _ (by decide), up_j _ _ _ _ (by decide), hI.h20]
                refine aw_iconst (v := nI 1) (pcn := 100) dX6_hop_99 rfl (by decide) ?_
                refine aw_iaddN (pcn := 101) dX6_hop_100 rfl ?_
                refine aw_putO (pcn := 104) (j' := 20) hW fp_X6_329 (by decide) (by decide) (os_8 _ _ _) dX6_hop_101 rfl (fun h hW hk => ?_)
                refine aw_alo 0 (pcn := 105) rfl dX6_hop_104 rfl rfl (rf_some _) ?_
                refine aw_getf (pcn := 108) fl_X6_329 dX6_hop_105 rfl hW.sc rfl ?_
                rw [up_s]
                exact aw_iret dX6_hop_108 rfl ⟨_, rfl, ret4 (T' := hpT T hN (nI c) f t) (by rw [hopT_eq hc8 (by assumption) (by assumption) (by assumption), if_neg (Classical.not_not.mpr q7), if_neg (by rintro (x | x | x); omega; exact q9 x; exact con_t q10 x)]) hW (by unfold hpT; rw [up_s, ix_nI (by omega)])⟩
              · refine aw_bipush (v := -4) (pcn := 73) dX6_hop_71 rfl (by decide) ?_
                exact aw_iret dX6_hop_73 rfl ⟨_, rfl, ret4 (by rw [hopT_eq hc8 (by assumption) (by assumption) (by assumption), if_neg (Classical.not_not.mpr q7), if_pos (Or.inr (Or.inr (con_f q10)))]) hW (by rw [hI.h20, ix_nI (by omega)])⟩
        · refine aw_bipush (v := -2) (pcn := 43) dX6_hop_41 rfl (by decide) ?_
          exact aw_iret dX6_hop_43 rfl ⟨_, rfl, ret4 (by rw [hopT_eq hc8 (by assumption) (by assumption) (by assumption), if_pos q7]) hW (by rw [hI.h20, ix_nI (by omega)])⟩
      · refine aw_iconst (v := -1) (pcn := 31) dX6_hop_30 rfl (by decide) ?_
        exact aw_iret dX6_hop_31 rfl ⟨_, rfl, ret4 (by simp only [hopT, hct, q5, q6, ix_nI (show c < 2 ^ 31 by omega), Bool.false_eq_true, Bool.true_eq_false, reduceCtorEq, if_true, if_false, or_false, false_or, or_true, true_or, and_true, true_and, and_false, false_and, not_true_eq_false, not_false_eq_true, or_self, ← Int32.not_le, shiT]) hW (by rw [hI.h20, ix_nI (by omega)])⟩

set_option maxHeartbeats 1600000 in
set_option maxRecDepth 20000 in
theorem c_a_state {X : XG} {l : Launch} {Γ : NM} {ow : Nat → Nat × Nat} {h : Hp} {T Tr : TB} {nh : Nat} (hW : WD Γ ow h T Tr nh) {i C n Z hN : Nat} (hI : Iv i T C n Z hN) (k : Int32) : AM X l yX6_state cX6_state 3 (some .int) 5 6 26 [.ref (Γ 0 0), .int k] h (qi fun r h' => r = (stateT T n k).1 ∧ ∃ Γ' ow', (∀ k i, vld T k i → Γ' k i = Γ k i) ∧ WD Γ' ow' h' (stateT T n k).2 Tr nh) := by
  refine AM.of (by decide +kernel) (by simp [Value.category]) (Nat.le_of_ble_eq_true rfl) ?_
  show AW X l cX6_state RX6 "state" (some .int) 3 5 none _ 6 26 0 [some (.ref (Γ 0 0)), some (.int k), none] [] h
  have h64 := hI.n64
  have h8 := hI.C8
  have h16 := hI.Z16
  have h4 := hI.h4
  refine aw_alo 0 (pcn := 1) rfl dX6_state_0 rfl rfl (rf_some _) ?_
  refine aw_ilo 1 (pcn := 2) rfl dX6_state_1 rfl rfl ?_
  refine aw_Vr (pcn := 5) (c_channelAt hW hI _) mf_X6_channelAt mv_X6_channelAt hW.sc rfl ml_X6_93 rfl (by decide) (by decide) (by decide) (by exact Nat.le_of_ble_eq_true rfl) rfl dX6_state_2 rfl (fun r h2 hq => ?_)
  obtain ⟨hq, hh⟩ := hq
  obtain rfl := hh.symm
  rcases hq with ⟨e0, rfl⟩ | ⟨c, hcC, rfl, hct, rfl⟩
  · refine aw_ast 2 (pcn := 6) rfl dX6_state_5 rfl (by decide) (rf_none) ?_
    dsimp only [List.set_cons_zero, List.set_cons_succ]
    refine aw_alo 2 (pcn := 7) rfl dX6_state_6 rfl rfl (rf_none) ?_
    refine aw_ifnonnull (t := 12) (pcn := 10) dX6_state_7 rfl (by decide) (rf_none) (fun a2 q1 => by cases q1) (fun q1 => ?_)
    clear q1
    refine aw_iconst (v := -1) (pcn := 11) dX6_state_10 rfl (by decide) ?_
    exact aw_iret dX6_state_11 rfl ⟨_, rfl, ret5 (by unfold stateT; exact if_pos e0) (fun _ _ _ => rfl) hW⟩
  · have hc8 : c < 8 := by omega
    have vc := hI.vc hcC
    refine aw_ast 2 (pcn := 6) rfl dX6_state_5 rfl (by decide) (rf_some _) ?_
    dsimp only [List.set_cons_zero, List.set_cons_succ]
    refine aw_alo 2 (pcn := 7) rfl dX6_state_6 rfl rfl (rf_some _) ?_
    refine aw_ifnonnull (t := 12) (pcn := 10) dX6_state_7 rfl (by decide) (rf_some _) (fun a4 q3 => ?_) (fun q3 => by cases q3)
    clear q3 a4
    refine aw_alo 2 (pcn := 13) rfl dX6_state_12 rfl rfl (rf_some _) ?_
    obtain ⟨g, hc, hg⟩ := hW.ch (c := c) vc
    refine aw_getf (pcn := 16) fl_X6_97 dX6_state_13 rfl hc rfl ?_
    refine aw_iconst (v := nI 3) (pcn := 17) dX6_state_16 rfl (by decide) ?_
    refine aw_icmp_ne (t := 23) (pcn := 20) dX6_state_17 rfl (by decide) (fun q5 => ?_) (fun q5 => ?_)
    · refine aw_alo 0 (pcn := 24) rfl dX6_state_23 rfl rfl (rf_some _) ?_
      refine aw_iconst (v := nI 1) (pcn := 25) dX6_state_24 rfl (by decide) ?_
      refine aw_Vi (pcn := 28) (c_hasRoomS hW hI (k := 1) (by omega)) mf_X6_hasRoomForStates mv_X6_hasRoomForStates hW.sc rfl ml_X6_56 rfl (by decide) (by decide) (by decide) (by exact Nat.le_of_ble_eq_true rfl) rfl dX6_state_25 rfl (fun r h2 hq => ?_)
      obtain ⟨rfl, hq⟩ := hq
      obtain rfl := hq.symm
      refine aw_if_neB (t := 34) (pcn := 31) dX6_state_28 rfl (by decide) (fun q6 => ?_) (fun q6 => ?_)
      · have hn64 : n < 64 := by have e := of_decide_eq_true q6; omega
        refine aw_alo 0 (pcn := 35) rfl dX6_state_34 rfl rfl (rf_some _) ?_
        refine aw_alo 2 (pcn := 36) rfl dX6_state_35 rfl rfl (rf_some _) ?_
        refine aw_Vr (pcn := 39) (c_newNewest hW hI hcC hn64 (by assumption)) mf_X6_newStateAsNewest mv_X6_newStateAsNewest hW.sc rfl ml_X6_100 rfl (by decide) (by decide) (by decide) (by exact Nat.le_of_ble_eq_true rfl) rfl dX6_state_36 rfl (fun r h2 hq => ?_)
        obtain ⟨Γ', ow', hG, rfl, hW2, hk⟩ := hq
        have c18 : copT T c n (ix (nwT T c n)) 18 0 = nI (n + 1) := by
          obtain ⟨_, _, _, _, _, _, b18, _, _⟩ := blkT_v T c n
          unfold copT
          rw [cpT_j _ _ _ _ _ (by decide), b18]
        have vs2 : n < ix (copT T c n (ix (nwT T c n)) 18 0) := by rw [c18, ix_nI (by omega)]; omega
        obtain ⟨gs, hs, hgs⟩ := hW2.st' (s := n) vs2
        refine aw_getf (pcn := 42) fl_X6_103 dX6_state_39 rfl hs rfl ?_
        exact aw_iret dX6_state_42 rfl ⟨_, rfl, ret5 (by rw [stateT_eq hc8 hct, if_neg q5, if_neg (by rw [hI.n18, nI_eq (by omega) (by omega)]; omega)]) hG hW2⟩
      · refine aw_bipush (v := -4) (pcn := 33) dX6_state_31 rfl (by decide) ?_
        exact aw_iret dX6_state_33 rfl ⟨_, rfl, ret5 (by rw [stateT_eq hc8 hct, if_neg q5, if_pos (by rw [hI.n18]; have e := of_decide_eq_false q6; rw [show n = 64 by omega])]) (fun _ _ _ => rfl) hW⟩
    · refine aw_bipush (v := -2) (pcn := 22) dX6_state_20 rfl (by decide) ?_
      exact aw_iret dX6_state_22 rfl ⟨_, rfl, ret5 (by rw [stateT_eq hc8 hct, if_pos q5]) (fun _ _ _ => rfl) hW⟩
