/-! the class: new states -/
theorem hup_none {h : Hp} {a q : Nat} {c : AC} (e : hup h a c q = none) : q ≠ a ∧ h q = none := by
  by_cases x : q = a
  · subst x; rw [hup_s] at e; cases e
  · rw [hup_n h c x] at e; exact ⟨x, e⟩
set_option maxHeartbeats 1600000 in
set_option maxRecDepth 20000 in
theorem c_State {X : XG} {l : Launch} {h : Hp}  {a0 c0 : Nat} (n0 k0 : Int32) (ha : h a0 = some (ob 4 [.int 0, .null, .int 0, .null, .null, .null, .null, .int 0, .int 0])) : AM X l yX4_init cX4_init 4 (none) 2 5 17 [.ref a0, .int n0, .ref c0, .int k0] h (qv fun h' => ∃ a1 b1 a2 b2 a3, h a1 = none ∧ h b1 = none ∧ h a2 = none ∧ h b2 = none ∧ h a3 = none ∧ b1 ≠ b2 ∧ h' a0 = some (ob 4 [.int n0, .ref c0, .int k0, .ref a1, .ref a2, .ref a3, .null, .int 0, .int 0]) ∧ h' a1 = some (ob 5 [.ref b1]) ∧ h' b1 = some (ia 6 fun _ => 0) ∧ h' a2 = some (ob 5 [.ref b2]) ∧ h' b2 = some (ia 6 fun _ => 0) ∧ h' a3 = some (ra 3 3 fun _ => none) ∧ ∀ q, h q ≠ none → q ≠ a0 → h' q = h q) := by
  refine AM.of (by decide +kernel) (by simp [Value.category]) (Nat.le_of_ble_eq_true rfl) ?_
  show AW X l cX4_init RX4 "<init>" (none) 4 2 none _ 5 17 0 [some (.ref a0), some (.int n0), some (.ref c0), some (.int k0)] [] h
  refine aw_alo 0 (pcn := 1) rfl dX4_init_0 rfl rfl (rf_some _) ?_
  refine aw_obj (pcn := 4) ml_X4_3 (by decide) (by decide) dX4_init_1 rfl ?_
  refine aw_alo 0 (pcn := 5) rfl dX4_init_4 rfl rfl (rf_some _) ?_
  refine aw_new 1 (pcn := 8) nw_X4_9 rfl dX4_init_5 rfl (by decide) (by decide) (fun a1 z1 => ?_)
  obtain ⟨h1, eh1⟩ : ∃ x, x = hup h a1 (ob 5 [.null]) := ⟨_, rfl⟩
  rw [← eh1]
  refine aw_dup (pcn := 9) dX4_init_8 rfl rfl ?_
  refine aw_INv (rty := none) (pcn := 12) (c_Sums (w0 := .null) (by rw [eh1]; exact hup_s _ _ _)) mf_X5_init mv_X5_init rfl ml_X4_11 rfl (by decide) (by decide) (by decide) (by exact Nat.le_of_ble_eq_true rfl) rfl dX4_init_9 rfl (fun h2 hq => ?_)
  have na1 : a0 ≠ a1 := fun e => by rw [e, z1] at ha; cases ha
  obtain ⟨b1, y1, x1, eh2⟩ := hq
  have y1' := y1
  rw [eh1] at y1'
  obtain ⟨_, w1⟩ := hup_none y1'
  have nb1 : a0 ≠ b1 := fun e => by rw [e, w1] at ha; cases ha
  have q0 : h2 a0 = some (ob 4 [.int 0, .null, .int 0, .null, .null, .null, .null, .int 0, .int 0]) := by rw [eh2, hup_n _ _ na1, hup_n _ _ nb1, eh1, hup_n _ _ na1]; exact ha
  refine aw_putF (pcn := 15) ff_X4_12 rfl dX4_init_12 rfl q0 (by exact Nat.le_of_ble_eq_true rfl) (VF.o _ (some _)) ?_
  dsimp only [List.set_cons_zero, List.set_cons_succ]
  obtain ⟨h3, eh3⟩ : ∃ x, x = hup h2 a0 (ob 4 [.int 0, .null, .int 0, .ref a1, .null, .null, .null, .int 0, .int 0]) := ⟨_, rfl⟩
  rw [← eh3]
  refine aw_alo 0 (pcn := 16) rfl dX4_init_15 rfl rfl (rf_some _) ?_
  refine aw_new 1 (pcn := 19) nw_X4_9 rfl dX4_init_16 rfl (by decide) (by decide) (fun a2 z3 => ?_)
  obtain ⟨h4, eh4⟩ : ∃ x, x = hup h3 a2 (ob 5 [.null]) := ⟨_, rfl⟩
  rw [← eh4]
  refine aw_dup (pcn := 20) dX4_init_19 rfl rfl ?_
  refine aw_INv (rty := none) (pcn := 23) (c_Sums (w0 := .null) (by rw [eh4]; exact hup_s _ _ _)) mf_X5_init mv_X5_init rfl ml_X4_11 rfl (by decide) (by decide) (by decide) (by exact Nat.le_of_ble_eq_true rfl) rfl dX4_init_20 rfl (fun h5 hq => ?_)
  have z3' := z3
  rw [eh3] at z3'
  obtain ⟨m20, w3⟩ := hup_none z3'
  rw [eh2] at w3
  obtain ⟨m2a1, w3⟩ := hup_none w3
  obtain ⟨m2b1, w3⟩ := hup_none w3
  rw [eh1] at w3
  obtain ⟨_, w3⟩ := hup_none w3
  have na2 : a0 ≠ a2 := Ne.symm m20
  obtain ⟨b2, y2, x2, eh5⟩ := hq
  have y2' := y2
  rw [eh4] at y2'
  obtain ⟨_, w4⟩ := hup_none y2'
  rw [eh3] at w4
  obtain ⟨mb20, w4⟩ := hup_none w4
  rw [eh2] at w4
  obtain ⟨mb2a1, w4⟩ := hup_none w4
  obtain ⟨nbb, w4⟩ := hup_none w4
  rw [eh1] at w4
  obtain ⟨_, w4⟩ := hup_none w4
  have nb2 : a0 ≠ b2 := Ne.symm mb20
  have q3 : h3 a0 = some (ob 4 [.int 0, .null, .int 0, .ref a1, .null, .null, .null, .int 0, .int 0]) := by rw [eh3]; exact hup_s _ _ _
  have q5 : h5 a0 = some (ob 4 [.int 0, .null, .int 0, .ref a1, .null, .null, .null, .int 0, .int 0]) := by rw [eh5, hup_n _ _ na2, hup_n _ _ nb2, eh4, hup_n _ _ na2]; exact q3
  refine aw_putF (pcn := 26) ff_X4_18 rfl dX4_init_23 rfl q5 (by exact Nat.le_of_ble_eq_true rfl) (VF.o _ (some _)) ?_
  dsimp only [List.set_cons_zero, List.set_cons_succ]
  obtain ⟨h6, eh6⟩ : ∃ x, x = hup h5 a0 (ob 4 [.int 0, .null, .int 0, .ref a1, .ref a2, .null, .null, .int 0, .int 0]) := ⟨_, rfl⟩
  rw [← eh6]
  refine aw_alo 0 (pcn := 27) rfl dX4_init_26 rfl rfl (rf_some _) ?_
  refine aw_iconst (v := nI 3) (pcn := 28) dX4_init_27 rfl (by decide) ?_
  refine aw_newr 3 (t := 3) (pcn := 31) (by decide) (by decide) (by decide) (by decide) nr_X4_21 dX4_init_28 rfl (by decide) (by decide) (fun a3 z5 => ?_)
  obtain ⟨h7, eh7⟩ : ∃ x, x = hup h6 a3 (ra 3 3 fun _ => none) := ⟨_, rfl⟩
  rw [← eh7]
  have z5' := z5
  rw [eh6] at z5'
  obtain ⟨m30, y3⟩ := hup_none z5'
  rw [eh5] at y3
  obtain ⟨m32, y3⟩ := hup_none y3
  obtain ⟨m3b2, y3⟩ := hup_none y3
  rw [eh4] at y3
  obtain ⟨_, y3⟩ := hup_none y3
  rw [eh3] at y3
  obtain ⟨_, y3⟩ := hup_none y3
  rw [eh2] at y3
  obtain ⟨m31, y3⟩ := hup_none y3
  obtain ⟨m3b1, y3⟩ := hup_none y3
  rw [eh1] at y3
  obtain ⟨_, y3⟩ := hup_none y3
  have q7 : h7 a0 = some (ob 4 [.int 0, .null, .int 0, .ref a1, .ref a2, .null, .null, .int 0, .int 0]) := by rw [eh7, hup_n _ _ (Ne.symm m30), eh6]; exact hup_s _ _ _
  refine aw_putF (pcn := 34) ff_X4_23 rfl dX4_init_31 rfl q7 (by exact Nat.le_of_ble_eq_true rfl) (VF.a _ (some _)) ?_
  dsimp only [List.set_cons_zero, List.set_cons_succ]
  refine aw_alo 0 (pcn := 35) rfl dX4_init_34 rfl rfl (rf_some _) ?_
  refine aw_ilo 1 (pcn := 36) rfl dX4_init_35 rfl rfl ?_
  refine aw_putF (pcn := 39) ff_X4_27 rfl dX4_init_36 rfl (hup_s _ _ _) (by exact Nat.le_of_ble_eq_true rfl) (VF.i _) ?_
  rw [hup_hup]
  dsimp only [List.set_cons_zero, List.set_cons_succ]
  refine aw_alo 0 (pcn := 40) rfl dX4_init_39 rfl rfl (rf_some _) ?_
  refine aw_alo 2 (pcn := 41) rfl dX4_init_40 rfl rfl (rf_some _) ?_
  refine aw_putF (pcn := 44) ff_X4_31 rfl dX4_init_41 rfl (hup_s _ _ _) (by exact Nat.le_of_ble_eq_true rfl) (VF.o _ (some _)) ?_
  rw [hup_hup]
  dsimp only [List.set_cons_zero, List.set_cons_succ]
  refine aw_alo 0 (pcn := 45) rfl dX4_init_44 rfl rfl (rf_some _) ?_
  refine aw_ilo 3 (pcn := 46) rfl dX4_init_45 rfl rfl ?_
  refine aw_putF (pcn := 49) ff_X4_35 rfl dX4_init_46 rfl (hup_s _ _ _) (by exact Nat.le_of_ble_eq_true rfl) (VF.i _) ?_
  rw [hup_hup]
  dsimp only [List.set_cons_zero, List.set_cons_succ]
  exact aw_ret dX4_init_49 rfl ⟨rfl, ⟨a1, b1, a2, b2, a3, z1, w1, w3, w4, y3, fun e => nbb e.symm, hup_s _ _ _,
      by rw [hup_n _ _ (Ne.symm na1), eh7, hup_n _ _ (Ne.symm m31), eh6, hup_n _ _ (Ne.symm na1), eh5, hup_n _ _ (Ne.symm m2a1), hup_n _ _ (Ne.symm mb2a1), eh4, hup_n _ _ (Ne.symm m2a1), eh3, hup_n _ _ (Ne.symm na1), eh2]; exact hup_s _ _ _,
      by rw [hup_n _ _ (Ne.symm nb1), eh7, hup_n _ _ (Ne.symm m3b1), eh6, hup_n _ _ (Ne.symm nb1), eh5, hup_n _ _ (Ne.symm m2b1), hup_n _ _ (Ne.symm nbb), eh4, hup_n _ _ (Ne.symm m2b1), eh3, hup_n _ _ (Ne.symm nb1), eh2, hup_n _ _ x1]; exact hup_s _ _ _,
      by rw [hup_n _ _ (Ne.symm na2), eh7, hup_n _ _ (Ne.symm m32), eh6, hup_n _ _ (Ne.symm na2), eh5]; exact hup_s _ _ _,
      by rw [hup_n _ _ (Ne.symm nb2), eh7, hup_n _ _ (Ne.symm m3b2), eh6, hup_n _ _ (Ne.symm nb2), eh5, hup_n _ _ x2]; exact hup_s _ _ _,
      by rw [hup_n _ _ m30, eh7]; exact hup_s _ _ _,
      fun q hq hqa => by
        have t : ∀ {x : Nat}, h x = none → q ≠ x := fun hx e => hq (by rw [e]; exact hx)
        rw [hup_n _ _ hqa, eh7, hup_n _ _ (t y3), eh6, hup_n _ _ hqa, eh5, hup_n _ _ (t w3), hup_n _ _ (t w4), eh4, hup_n _ _ (t w3), eh3, hup_n _ _ hqa, eh2, hup_n _ _ (t z1), hup_n _ _ (t w1), eh1, hup_n _ _ (t z1)]⟩⟩

set_option maxHeartbeats 1600000 in
set_option maxRecDepth 20000 in
theorem c_newState {X : XG} {l : Launch} {Γ : NM} {ow : Nat → Nat × Nat} {h : Hp} {T Tr : TB} {nh : Nat} (hW : WD Γ ow h T Tr nh) {n c : Nat} (hn : T 18 0 = nI n) (hn64 : n < 64) (hc8 : c < 8) (vc : c < ix (T 5 0)) (hso : ∀ d, d < ix (T 5 0) → sOK n (T 25 d) ∧ sOK n (T 10 d)) (hrk : T 24 c = rkT T c n) : AM X l yX6_newState cX6_newState 3 (some (.object "StateChannels$State")) 3 6 26 [.ref (Γ 0 0), .ref (Γ 7 c)] h (qr fun r h' => ∃ Γ' ow', (∀ k i, vld T k i → Γ' k i = Γ k i) ∧ r = some (Γ' 8 n) ∧ WD Γ' ow' h' (blkT T c n) Tr nh ∧ Kp h h') := by
  refine AM.of (by decide +kernel) (by simp [Value.category]) (Nat.le_of_ble_eq_true rfl) ?_
  show AW X l cX6_newState RX6 "newState" (some (.object "StateChannels$State")) 3 3 none _ 6 26 0 [some (.ref (Γ 0 0)), some (.ref (Γ 7 c)), none] [] h
  refine aw_new 9 (pcn := 3) nw_X6_22 rfl dX6_newState_0 rfl (by decide) (by decide) (fun a0 z0 => ?_)
  have hW1 := hW.made (c := ob 4 [.int 0, .null, .int 0, .null, .null, .null, .null, .int 0, .int 0]) z0
  obtain ⟨hA, eA⟩ : ∃ x, x = hup h a0 (ob 4 [.int 0, .null, .int 0, .null, .null, .null, .null, .int 0, .int 0]) := ⟨_, rfl⟩
  rw [← eA] at hW1 ⊢
  have nw : ∀ k i, vld T k i → Γ k i ≠ a0 := fun k i hv e => by
    obtain ⟨x, h1, _⟩ := hW.2 k i hv
    rw [e, z0] at h1
    cases h1
  obtain ⟨g, hc, hg⟩ := hW1.ch (c := c) vc
  refine aw_dup (pcn := 4) dX6_newState_3 rfl rfl ?_
  refine aw_alo 0 (pcn := 5) rfl dX6_newState_4 rfl rfl (rf_some _) ?_
  refine aw_getf (pcn := 8) fl_X6_104 dX6_newState_5 rfl hW1.sc rfl ?_
  rw [hn]
  refine aw_alo 1 (pcn := 9) rfl dX6_newState_8 rfl rfl (rf_some _) ?_
  refine aw_alo 1 (pcn := 10) rfl dX6_newState_9 rfl rfl (rf_some _) ?_
  refine aw_getf (pcn := 13) fl_X6_113 dX6_newState_10 rfl hc rfl ?_
  refine aw_Iv (rty := none) (pcn := 16) (c_State (nI n) (T 24 c) (by rw [eA]; exact hup_s _ _ _)) mf_X4_init mv_X4_init rfl ml_X6_116 rfl (by decide) (by decide) (by decide) (by exact Nat.le_of_ble_eq_true rfl) rfl dX6_newState_13 rfl (fun hB hq => ?_)
  obtain ⟨a1, b1, a2, b2, a3, z1, z2, z3, z4, z5, nb, f0, f1, f2, f3, f4, f5, fo⟩ := hq
  rw [eA] at z1 z2 z3 z4 z5
  obtain ⟨n1, z1⟩ := hup_none z1
  obtain ⟨n2, z2⟩ := hup_none z2
  obtain ⟨n3, z3⟩ := hup_none z3
  obtain ⟨n4, z4⟩ := hup_none z4
  obtain ⟨n5, z5⟩ := hup_none z5
  have hne : ∀ k i, vld T k i → h (Γ k i) ≠ none := fun k i hv => by
    obtain ⟨x, h1, _⟩ := hW.2 k i hv
    rw [h1]; exact fun e => by cases e
  have fo' : ∀ q, h q ≠ none → hB q = h q := fun q hq => by
    have hqa : q ≠ a0 := fun e => hq (by rw [e]; exact z0)
    rw [fo q (by rw [eA, hup_n _ _ hqa]; exact hq) hqa, eA, hup_n _ _ hqa]
  have bsc : hB (Γ 0 0) = some (ob 6 (scF Γ T)) := by rw [fo' _ (hne 0 0 (v0 (by decide)))]; exact hW.sc
  have bst : hB (Γ 4 0) = some (ra 4 64 fun q => if q < ix (T 18 0) then some (Γ 8 q) else none) := by rw [fo' _ (hne 4 0 (v0 (by decide)))]; exact hW.sts
  obtain ⟨g0, hc0, hg0⟩ := hW.ch (c := c) vc
  have bch : hB (Γ 7 c) = some (ob 0 (chF Γ T g0 c)) := by rw [fo' _ (hne 7 c (v7 vc))]; exact hc0
  have d04 : Γ 0 0 ≠ Γ 4 0 := hW.ne (v0 (by decide)) (v0 (by decide)) (by omega)
  have d07 : Γ 0 0 ≠ Γ 7 c := hW.ne (v7 vc) (v0 (by decide)) (by omega)
  have d47 : Γ 4 0 ≠ Γ 7 c := hW.ne (v7 vc) (v0 (by decide)) (by omega)
  refine aw_ast 2 (pcn := 17) rfl dX6_newState_16 rfl (by decide) (rf_some _) ?_
  dsimp only [List.set_cons_zero, List.set_cons_succ]
  refine aw_alo 0 (pcn := 18) rfl dX6_newState_17 rfl rfl (rf_some _) ?_
  refine aw_getf (pcn := 21) fl_X6_104 dX6_newState_18 rfl bsc rfl ?_
  rw [hn]
  refine aw_if_lt (t := 66) (pcn := 24) dX6_newState_21 rfl (by decide) (fun q => absurd q (nI_pos (by omega))) (fun _ => ?_)
  refine aw_alo 0 (pcn := 25) rfl dX6_newState_24 rfl rfl (rf_some _) ?_
  refine aw_getf (pcn := 28) fl_X6_104 dX6_newState_25 rfl bsc rfl ?_
  rw [hn]
  refine aw_alo 0 (pcn := 29) rfl dX6_newState_28 rfl rfl (rf_some _) ?_
  refine aw_getf (pcn := 32) fl_X6_24 dX6_newState_29 rfl bsc rfl ?_
  refine aw_alenr (v := nI 64) (pcn := 33) dX6_newState_32 rfl bst (by decide) (by decide) ?_
  refine aw_icmp_ge (t := 66) (pcn := 36) dX6_newState_33 rfl (by decide) (fun q => absurd q (nI_ge hn64 (by decide))) (fun _ => ?_)
  refine aw_alo 0 (pcn := 37) rfl dX6_newState_36 rfl rfl (rf_some _) ?_
  refine aw_getf (pcn := 40) fl_X6_24 dX6_newState_37 rfl bsc rfl ?_
  refine aw_alo 0 (pcn := 41) rfl dX6_newState_40 rfl rfl (rf_some _) ?_
  refine aw_getf (pcn := 44) fl_X6_104 dX6_newState_41 rfl bsc rfl ?_
  rw [hn]
  refine aw_alo 2 (pcn := 45) rfl dX6_newState_44 rfl rfl (rf_some _) ?_
  refine aw_aast (pcn := 46) dX6_newState_45 rfl bst (by decide) (vp_in_nI hn64 (by decide)) f0 ?_
  rw [nI_clamp (by omega), show va_up (fun q => if q < ix (T 18 0) then some (Γ 8 q) else none) n (some a0) = (fun q => if q = n then some a0 else if q < ix (T 18 0) then some (Γ 8 q) else none) from rfl]
  obtain ⟨hC, eC⟩ : ∃ x, x = hup hB (Γ 4 0) (ra 4 64 fun q => if q = n then some a0 else if q < ix (T 18 0) then some (Γ 8 q) else none) := ⟨_, rfl⟩
  rw [← eC]
  have csc : hC (Γ 0 0) = some (ob 6 (scF Γ T)) := by rw [eC, hup_n _ _ d04]; exact bsc
  refine aw_alo 0 (pcn := 47) rfl dX6_newState_46 rfl rfl (rf_some _) ?_
  refine aw_dup (pcn := 48) dX6_newState_47 rfl rfl ?_
  refine aw_getf (pcn := 51) fl_X6_104 dX6_newState_48 rfl csc rfl ?_
  rw [hn]
  refine aw_iconst (v := nI 1) (pcn := 52) dX6_newState_51 rfl (by decide) ?_
  refine aw_iaddN (pcn := 53) dX6_newState_52 rfl ?_
  refine aw_putf (pcn := 56) fp_X6_104 dX6_newState_53 rfl csc (by exact Nat.le_of_ble_eq_true rfl) (VF.i _) ?_
  rw [show (scF Γ T).set 6 (.int (nI (n + 1))) = scF Γ (up T 18 0 (nI (n + 1))) by simp [scF, up]]
  obtain ⟨hD, eD⟩ : ∃ x, x = hup hC (Γ 0 0) (ob 6 (scF Γ (up T 18 0 (nI (n + 1))))) := ⟨_, rfl⟩
  rw [← eD]
  have dch : hD (Γ 7 c) = some (ob 0 (chF Γ T g0 c)) := by rw [eD, hup_n _ _ (Ne.symm d07), eC, hup_n _ _ (Ne.symm d47)]; exact bch
  refine aw_alo 1 (pcn := 57) rfl dX6_newState_56 rfl rfl (rf_some _) ?_
  refine aw_dup (pcn := 58) dX6_newState_57 rfl rfl ?_
  refine aw_getf (pcn := 61) fl_X6_113 dX6_newState_58 rfl dch rfl ?_
  refine aw_iconst (v := nI 1) (pcn := 62) dX6_newState_61 rfl (by decide) ?_
  refine aw_iadd (pcn := 63) dX6_newState_62 rfl ?_
  refine aw_putf (pcn := 66) fp_X6_113 dX6_newState_63 rfl dch (by exact Nat.le_of_ble_eq_true rfl) (VF.i _) ?_
  rw [cs_5]
  obtain ⟨hE, eE⟩ : ∃ x, x = hup hD (Γ 7 c) (ob 0 (chF Γ (up T 24 c (T 24 c + nI 1)) g0 c)) := ⟨_, rfl⟩
  rw [← eE]
  refine aw_alo 2 (pcn := 67) rfl dX6_newState_66 rfl rfl (rf_some _) ?_
  have lk : ∀ a, a ≠ Γ 0 0 → a ≠ Γ 4 0 → a ≠ Γ 7 c → hE a = hB a := fun a x y z => by rw [eE, hup_n _ _ z, eD, hup_n _ _ x, eC, hup_n _ _ y]
  have nn : ∀ a, h a = none → a ≠ Γ 0 0 ∧ a ≠ Γ 4 0 ∧ a ≠ Γ 7 c := fun a ha => ⟨fun e => hne 0 0 (v0 (by decide)) (by rw [← e]; exact ha), fun e => hne 4 0 (v0 (by decide)) (by rw [← e]; exact ha), fun e => hne 7 c (v7 vc) (by rw [← e]; exact ha)⟩
  have lw : ∀ a x, h a = none → hB a = some x → hE a = some x := fun a x ha hx => by
    obtain ⟨p1, p2, p3⟩ := nn a ha
    rw [lk a p1 p2 p3]; exact hx
  obtain ⟨Γ', ow', g1, g2, g3, g4⟩ := hW.newS hn hn64 vc hso hrk hc8 z0 z1 z2 z3 z4 z5 nb (lw _ _ z0 f0) (lw _ _ z1 f1) (lw _ _ z2 f2) (lw _ _ z3 f3) (lw _ _ z4 f4) (lw _ _ z5 f5) (fun q hq x y z => by rw [lk q x y z]; exact fo' q hq) (by rw [eE, hup_n _ _ d07, eD]; exact hup_s _ _ _) (by rw [eE, hup_n _ _ d47, eD, hup_n _ _ (Ne.symm d04), eC, hup_s, show ix (T 18 0) = n by rw [hn, ix_nI (by omega)]]) ⟨g0, by rw [eE]; exact hup_s _ _ _, hg0⟩
  exact aw_aret dX6_newState_67 rfl (Or.inl ⟨_, rfl⟩) (rf_some _) ⟨_, rfl, Γ', ow', g1, by rw [g2], g3, g4⟩
