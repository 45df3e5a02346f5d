set_option maxHeartbeats 1600000 in
set_option maxRecDepth 20000 in
theorem c_init {X : XG} {l : Launch} {h : Hp}  {a0 : Nat} (ha : h a0 = some (ob 6 [.null, .null, .null, .null, .null, .int 0, .int 0, .int 0, .int 0, .int 0, .int 0])) : AM X l yX6_init cX6_init 2 (none) 2 6 99 [.ref a0] h (qv fun h' => ∃ p1 p2 p3 p4 p5 p6, IN h h' a0 (ob 6 [.ref p1, .ref p3, .ref p4, .ref p5, .ref p6, .int 0, .int 0, .int 0, .int 0, .int 0, .int 0]) [(p6, ra 2 4 (fun _ => none)), (p5, ia 16 (fun _ => 0)), (p4, ra 4 64 (fun _ => none)), (p3, ra 1 8 (fun _ => none)), (p2, ia 6 (upd (upd (upd (upd (upd (upd (fun _ => 0) 0 (nI 10000)) 1 (nI 10000)) 2 (nI 10000)) 3 (nI 10000)) 4 (nI 10000)) 5 (nI 10000))), (p1, ob 5 [.ref p2])]) := by
  refine AM.of (by decide +kernel) (by simp [Value.category]) (Nat.le_of_ble_eq_true rfl) ?_
  show AW X l cX6_init RX6 "<init>" (none) 2 2 none _ 6 99 0 [some (.ref a0), none] [] h
  refine aw_alo 0 (pcn := 1) rfl dX6_init_0 rfl rfl (rf_some _) ?_
  refine aw_obj (pcn := 4) ml_X6_1 (by decide) (by decide) dX6_init_1 rfl ?_
  refine aw_alo 0 (pcn := 5) rfl dX6_init_4 rfl rfl (rf_some _) ?_
  refine aw_new 1 (pcn := 8) nw_X6_7 rfl dX6_init_5 rfl (by decide) (by decide) (fun p1 z1 => ?_)
  have H0 : IN h _ a0 (ob 6 [.null, .null, .null, .null, .null, .int 0, .int 0, .int 0, .int 0, .int 0, .int 0]) [(p1, ob 5 [.null])] := (IN.start ha).made z1 (ob 5 [.null])
  obtain ⟨h1, eh1⟩ : ∃ x, x = hup h p1 (ob 5 [.null]) := ⟨_, rfl⟩
  rw [← eh1] at H0 ⊢
  refine aw_dup (pcn := 9) dX6_init_8 rfl rfl ?_
  refine aw_INv (rty := none) (pcn := 12) (c_Sums (w0 := .null) (by rw [eh1]; exact hup_s _ _ _)) mf_X5_init mv_X5_init rfl ml_X6_9 rfl (by decide) (by decide) (by decide) (by exact Nat.le_of_ble_eq_true rfl) rfl dX6_init_9 rfl (fun h2 hq => ?_)
  obtain ⟨p2, z2, n21, eh2⟩ := hq
  have H1 := H0.made z2 (ia 6 (fun _ => 0))
  have H2 := IN.wr (L := [(p2, ia 6 (fun _ => 0))]) (M := []) H1 (ob 5 [.ref p2])
  rw [← eh2] at H2
  refine aw_putF (pcn := 15) ff_X6_10 rfl dX6_init_12 rfl H2.self (by exact Nat.le_of_ble_eq_true rfl) (VF.o _ (some _)) ?_
  dsimp only [List.set_cons_zero, List.set_cons_succ]
  have B0 := H2.put (ob 6 [.ref p1, .null, .null, .null, .null, .int 0, .int 0, .int 0, .int 0, .int 0, .int 0])
  obtain ⟨g0, f0⟩ : ∃ x, x = hup h2 a0 (ob 6 [.ref p1, .null, .null, .null, .null, .int 0, .int 0, .int 0, .int 0, .int 0, .int 0]) := ⟨_, rfl⟩
  rw [← f0] at B0
  show AW _ _ _ _ _ _ _ _ _ _ _ _ _ _ _ (hup h2 a0 (ob 6 [.ref p1, .null, .null, .null, .null, .int 0, .int 0, .int 0, .int 0, .int 0, .int 0]))
  rw [← f0]
  refine aw_alo 0 (pcn := 16) rfl dX6_init_15 rfl rfl (rf_some _) ?_
  refine aw_bipush (v := nI 8) (pcn := 18) dX6_init_16 rfl (by decide) ?_
  refine aw_newr 8 (t := 1) (pcn := 21) (by decide) (by decide) (by decide) (by decide) nr_X6_16 dX6_init_18 rfl (by omega) (by omega) (fun p3 zp3 => ?_)
  have Ap3 := B0.made zp3 (ra 1 8 (fun _ => none))
  obtain ⟨hp3, ehp3⟩ : ∃ x, x = hup g0 p3 (ra 1 8 (fun _ => none)) := ⟨_, rfl⟩
  rw [← ehp3] at Ap3 ⊢
  refine aw_putF (pcn := 24) ff_X6_18 rfl dX6_init_21 rfl Ap3.self (by exact Nat.le_of_ble_eq_true rfl) (VF.a _ (some _)) ?_
  dsimp only [List.set_cons_zero, List.set_cons_succ]
  have B1 := Ap3.put (ob 6 [.ref p1, .ref p3, .null, .null, .null, .int 0, .int 0, .int 0, .int 0, .int 0, .int 0])
  obtain ⟨g1, f1⟩ : ∃ x, x = hup hp3 a0 (ob 6 [.ref p1, .ref p3, .null, .null, .null, .int 0, .int 0, .int 0, .int 0, .int 0, .int 0]) := ⟨_, rfl⟩
  rw [← f1] at B1
  show AW _ _ _ _ _ _ _ _ _ _ _ _ _ _ _ (hup hp3 a0 (ob 6 [.ref p1, .ref p3, .null, .null, .null, .int 0, .int 0, .int 0, .int 0, .int 0, .int 0]))
  rw [← f1]
  refine aw_alo 0 (pcn := 25) rfl dX6_init_24 rfl rfl (rf_some _) ?_
  refine aw_bipush (v := nI 64) (pcn := 27) dX6_init_25 rfl (by decide) ?_
  refine aw_newr 64 (t := 4) (pcn := 30) (by decide) (by decide) (by decide) (by decide) nr_X6_22 dX6_init_27 rfl (by omega) (by omega) (fun p4 zp4 => ?_)
  have Ap4 := B1.made zp4 (ra 4 64 (fun _ => none))
  obtain ⟨hp4, ehp4⟩ : ∃ x, x = hup g1 p4 (ra 4 64 (fun _ => none)) := ⟨_, rfl⟩
  rw [← ehp4] at Ap4 ⊢
  refine aw_putF (pcn := 33) ff_X6_24 rfl dX6_init_30 rfl Ap4.self (by exact Nat.le_of_ble_eq_true rfl) (VF.a _ (some _)) ?_
  dsimp only [List.set_cons_zero, List.set_cons_succ]
  have B2 := Ap4.put (ob 6 [.ref p1, .ref p3, .ref p4, .null, .null, .int 0, .int 0, .int 0, .int 0, .int 0, .int 0])
  obtain ⟨g2, f2⟩ : ∃ x, x = hup hp4 a0 (ob 6 [.ref p1, .ref p3, .ref p4, .null, .null, .int 0, .int 0, .int 0, .int 0, .int 0, .int 0]) := ⟨_, rfl⟩
  rw [← f2] at B2
  show AW _ _ _ _ _ _ _ _ _ _ _ _ _ _ _ (hup hp4 a0 (ob 6 [.ref p1, .ref p3, .ref p4, .null, .null, .int 0, .int 0, .int 0, .int 0, .int 0, .int 0]))
  rw [← f2]
  refine aw_alo 0 (pcn := 34) rfl dX6_init_33 rfl rfl (rf_some _) ?_
  refine aw_bipush (v := nI 16) (pcn := 36) dX6_init_34 rfl (by decide) ?_
  refine aw_newi 16 (pcn := 38) (by decide) (by decide) (by decide) (by decide) dX6_init_36 rfl (by omega) (by omega) (fun p5 zp5 => ?_)
  have Ap5 := B2.made zp5 (ia 16 (fun _ => 0))
  obtain ⟨hp5, ehp5⟩ : ∃ x, x = hup g2 p5 (ia 16 (fun _ => 0)) := ⟨_, rfl⟩
  rw [← ehp5] at Ap5 ⊢
  refine aw_putF (pcn := 41) ff_X6_28 rfl dX6_init_38 rfl Ap5.self (by exact Nat.le_of_ble_eq_true rfl) (VF.a _ (some _)) ?_
  dsimp only [List.set_cons_zero, List.set_cons_succ]
  have B3 := Ap5.put (ob 6 [.ref p1, .ref p3, .ref p4, .ref p5, .null, .int 0, .int 0, .int 0, .int 0, .int 0, .int 0])
  obtain ⟨g3, f3⟩ : ∃ x, x = hup hp5 a0 (ob 6 [.ref p1, .ref p3, .ref p4, .ref p5, .null, .int 0, .int 0, .int 0, .int 0, .int 0, .int 0]) := ⟨_, rfl⟩
  rw [← f3] at B3
  show AW _ _ _ _ _ _ _ _ _ _ _ _ _ _ _ (hup hp5 a0 (ob 6 [.ref p1, .ref p3, .ref p4, .ref p5, .null, .int 0, .int 0, .int 0, .int 0, .int 0, .int 0]))
  rw [← f3]
  refine aw_alo 0 (pcn := 42) rfl dX6_init_41 rfl rfl (rf_some _) ?_
  refine aw_iconst (v := nI 4) (pcn := 43) dX6_init_42 rfl (by decide) ?_
  refine aw_newr 4 (t := 2) (pcn := 46) (by decide) (by decide) (by decide) (by decide) nr_X6_32 dX6_init_43 rfl (by omega) (by omega) (fun p6 zp6 => ?_)
  have Ap6 := B3.made zp6 (ra 2 4 (fun _ => none))
  obtain ⟨hp6, ehp6⟩ : ∃ x, x = hup g3 p6 (ra 2 4 (fun _ => none)) := ⟨_, rfl⟩
  rw [← ehp6] at Ap6 ⊢
  refine aw_putF (pcn := 49) ff_X6_34 rfl dX6_init_46 rfl Ap6.self (by exact Nat.le_of_ble_eq_true rfl) (VF.a _ (some _)) ?_
  dsimp only [List.set_cons_zero, List.set_cons_succ]
  have B4 := Ap6.put (ob 6 [.ref p1, .ref p3, .ref p4, .ref p5, .ref p6, .int 0, .int 0, .int 0, .int 0, .int 0, .int 0])
  obtain ⟨g4, f4⟩ : ∃ x, x = hup hp6 a0 (ob 6 [.ref p1, .ref p3, .ref p4, .ref p5, .ref p6, .int 0, .int 0, .int 0, .int 0, .int 0, .int 0]) := ⟨_, rfl⟩
  rw [← f4] at B4
  show AW _ _ _ _ _ _ _ _ _ _ _ _ _ _ _ (hup hp6 a0 (ob 6 [.ref p1, .ref p3, .ref p4, .ref p5, .ref p6, .int 0, .int 0, .int 0, .int 0, .int 0, .int 0]))
  rw [← f4]
  refine aw_iconst (v := nI 0) (pcn := 50) dX6_init_49 rfl (by decide) ?_
  refine aw_ist 1 (pcn := 51) rfl dX6_init_50 rfl (by decide) ?_
  dsimp only [List.set_cons_zero, List.set_cons_succ]
  refine aw_ilo 1 (pcn := 52) rfl dX6_init_51 rfl rfl ?_
  refine aw_bipush (v := nI 6) (pcn := 54) dX6_init_52 rfl (by decide) ?_
  refine aw_icmp_ge (t := 74) (pcn := 57) dX6_init_54 rfl (by decide) (fun q1 => absurd q1 (by decide)) (fun q1 => ?_)
  refine aw_alo 0 (pcn := 58) rfl dX6_init_57 rfl rfl (rf_some _) ?_
  refine aw_getf (pcn := 61) fl_X6_10 dX6_init_58 rfl B4.self rfl ?_
  refine aw_ilo 1 (pcn := 62) rfl dX6_init_61 rfl rfl ?_
  refine aw_sipush (v := nI 10000) (pcn := 65) dX6_init_62 rfl (by decide) ?_
  refine aw_Vv (pcn := 68) (c_put0 (P := 0) (B4.new (p1, ob 5 [.ref p2]) (by simp)).2.1 (B4.new (p2, ia 6 (fun _ => 0)) (by simp)).2.1 (by decide) (nI 10000)) mf_X5_put mv_X5_put (B4.new (p1, ob 5 [.ref p2]) (by simp)).2.1 rfl ml_X6_38 rfl (by decide) (by decide) (by decide) (by exact Nat.le_of_ble_eq_true rfl) rfl dX6_init_65 rfl (fun w hq => ?_)
  have W0 := IN.wr (L := [(p6, ra 2 4 (fun _ => none)), (p5, ia 16 (fun _ => 0)), (p4, ra 4 64 (fun _ => none)), (p3, ra 1 8 (fun _ => none))]) (M := [(p1, ob 5 [.ref p2])]) B4 (ia 6 (upd (fun _ => 0) 0 (nI 10000)))
  rw [← hq] at W0
  refine aw_iinc (v := nI 1) (pcn := 71) dX6_init_68 rfl (by decide) rfl (by decide) ?_
  dsimp only [List.set_cons_zero, List.set_cons_succ]
  refine aw_goto (t := 51) dX6_init_71 (by decide) ?_
  refine aw_ilo 1 (pcn := 52) rfl dX6_init_51 rfl rfl ?_
  refine aw_bipush (v := nI 6) (pcn := 54) dX6_init_52 rfl (by decide) ?_
  refine aw_icmp_ge (t := 74) (pcn := 57) dX6_init_54 rfl (by decide) (fun q2 => absurd q2 (by decide)) (fun q2 => ?_)
  refine aw_alo 0 (pcn := 58) rfl dX6_init_57 rfl rfl (rf_some _) ?_
  refine aw_getf (pcn := 61) fl_X6_10 dX6_init_58 rfl W0.self rfl ?_
  refine aw_ilo 1 (pcn := 62) rfl dX6_init_61 rfl rfl ?_
  refine aw_sipush (v := nI 10000) (pcn := 65) dX6_init_62 rfl (by decide) ?_
  refine aw_Vv (pcn := 68) (c_put0 (P := 1) (W0.new (p1, ob 5 [.ref p2]) (by simp)).2.1 (W0.new (p2, ia 6 (upd (fun _ => 0) 0 (nI 10000))) (by simp)).2.1 (by decide) (nI 10000)) mf_X5_put mv_X5_put (W0.new (p1, ob 5 [.ref p2]) (by simp)).2.1 rfl ml_X6_38 rfl (by decide) (by decide) (by decide) (by exact Nat.le_of_ble_eq_true rfl) rfl dX6_init_65 rfl (fun w hq => ?_)
  have W1 := IN.wr (L := [(p6, ra 2 4 (fun _ => none)), (p5, ia 16 (fun _ => 0)), (p4, ra 4 64 (fun _ => none)), (p3, ra 1 8 (fun _ => none))]) (M := [(p1, ob 5 [.ref p2])]) W0 (ia 6 (upd (upd (fun _ => 0) 0 (nI 10000)) 1 (nI 10000)))
  rw [← hq] at W1
  refine aw_iinc (v := nI 2) (pcn := 71) dX6_init_68 rfl (by decide) rfl (by decide) ?_
  dsimp only [List.set_cons_zero, List.set_cons_succ]
  refine aw_goto (t := 51) dX6_init_71 (by decide) ?_
  refine aw_ilo 1 (pcn := 52) rfl dX6_init_51 rfl rfl ?_
  refine aw_bipush (v := nI 6) (pcn := 54) dX6_init_52 rfl (by decide) ?_
  refine aw_icmp_ge (t := 74) (pcn := 57) dX6_init_54 rfl (by decide) (fun q3 => absurd q3 (by decide)) (fun q3 => ?_)
  refine aw_alo 0 (pcn := 58) rfl dX6_init_57 rfl rfl (rf_some _) ?_
  refine aw_getf (pcn := 61) fl_X6_10 dX6_init_58 rfl W1.self rfl ?_
  refine aw_ilo 1 (pcn := 62) rfl dX6_init_61 rfl rfl ?_
  refine aw_sipush (v := nI 10000) (pcn := 65) dX6_init_62 rfl (by decide) ?_
  refine aw_Vv (pcn := 68) (c_put0 (P := 2) (W1.new (p1, ob 5 [.ref p2]) (by simp)).2.1 (W1.new (p2, ia 6 (upd (upd (fun _ => 0) 0 (nI 10000)) 1 (nI 10000))) (by simp)).2.1 (by decide) (nI 10000)) mf_X5_put mv_X5_put (W1.new (p1, ob 5 [.ref p2]) (by simp)).2.1 rfl ml_X6_38 rfl (by decide) (by decide) (by decide) (by exact Nat.le_of_ble_eq_true rfl) rfl dX6_init_65 rfl (fun w hq => ?_)
  have W2 := IN.wr (L := [(p6, ra 2 4 (fun _ => none)), (p5, ia 16 (fun _ => 0)), (p4, ra 4 64 (fun _ => none)), (p3, ra 1 8 (fun _ => none))]) (M := [(p1, ob 5 [.ref p2])]) W1 (ia 6 (upd (upd (upd (fun _ => 0) 0 (nI 10000)) 1 (nI 10000)) 2 (nI 10000)))
  rw [← hq] at W2
  refine aw_iinc (v := nI 3) (pcn := 71) dX6_init_68 rfl (by decide) rfl (by decide) ?_
  dsimp only [List.set_cons_zero, List.set_cons_succ]
  refine aw_goto (t := 51) dX6_init_71 (by decide) ?_
  refine aw_ilo 1 (pcn := 52) rfl dX6_init_51 rfl rfl ?_
  refine aw_bipush (v := nI 6) (pcn := 54) dX6_init_52 rfl (by decide) ?_
  refine aw_icmp_ge (t := 74) (pcn := 57) dX6_init_54 rfl (by decide) (fun q4 => absurd q4 (by decide)) (fun q4 => ?_)
  refine aw_alo 0 (pcn := 58) rfl dX6_init_57 rfl rfl (rf_some _) ?_
  refine aw_getf (pcn := 61) fl_X6_10 dX6_init_58 rfl W2.self rfl ?_
  refine aw_ilo 1 (pcn := 62) rfl dX6_init_61 rfl rfl ?_
  refine aw_sipush (v := nI 10000) (pcn := 65) dX6_init_62 rfl (by decide) ?_
  refine aw_Vv (pcn := 68) (c_put0 (P := 3) (W2.new (p1, ob 5 [.ref p2]) (by simp)).2.1 (W2.new (p2, ia 6 (upd (upd (upd (fun _ => 0) 0 (nI 10000)) 1 (nI 10000)) 2 (nI 10000))) (by simp)).2.1 (by decide) (nI 10000)) mf_X5_put mv_X5_put (W2.new (p1, ob 5 [.ref p2]) (by simp)).2.1 rfl ml_X6_38 rfl (by decide) (by decide) (by decide) (by exact Nat.le_of_ble_eq_true rfl) rfl dX6_init_65 rfl (fun w hq => ?_)
  have W3 := IN.wr (L := [(p6, ra 2 4 (fun _ => none)), (p5, ia 16 (fun _ => 0)), (p4, ra 4 64 (fun _ => none)), (p3, ra 1 8 (fun _ => none))]) (M := [(p1, ob 5 [.ref p2])]) W2 (ia 6 (upd (upd (upd (upd (fun _ => 0) 0 (nI 10000)) 1 (nI 10000)) 2 (nI 10000)) 3 (nI 10000)))
  rw [← hq] at W3
  refine aw_iinc (v := nI 4) (pcn := 71) dX6_init_68 rfl (by decide) rfl (by decide) ?_
  dsimp only [List.set_cons_zero, List.set_cons_succ]
  refine aw_goto (t := 51) dX6_init_71 (by decide) ?_
  refine aw_ilo 1 (pcn := 52) rfl dX6_init_51 rfl rfl ?_
  refine aw_bipush (v := nI 6) (pcn := 54) dX6_init_52 rfl (by decide) ?_
  refine aw_icmp_ge (t := 74) (pcn := 57) dX6_init_54 rfl (by decide) (fun q5 => absurd q5 (by decide)) (fun q5 => ?_)
  refine aw_alo 0 (pcn := 58) rfl dX6_init_57 rfl rfl (rf_some _) ?_
  refine aw_getf (pcn := 61) fl_X6_10 dX6_init_58 rfl W3.self rfl ?_
  refine aw_ilo 1 (pcn := 62) rfl dX6_init_61 rfl rfl ?_
  refine aw_sipush (v := nI 10000) (pcn := 65) dX6_init_62 rfl (by decide) ?_
  refine aw_Vv (pcn := 68) (c_put0 (P := 4) (W3.new (p1, ob 5 [.ref p2]) (by simp)).2.1 (W3.new (p2, ia 6 (upd (upd (upd (upd (fun _ => 0) 0 (nI 10000)) 1 (nI 10000)) 2 (nI 10000)) 3 (nI 10000))) (by simp)).2.1 (by decide) (nI 10000)) mf_X5_put mv_X5_put (W3.new (p1, ob 5 [.ref p2]) (by simp)).2.1 rfl ml_X6_38 rfl (by decide) (by decide) (by decide) (by exact Nat.le_of_ble_eq_true rfl) rfl dX6_init_65 rfl (fun w hq => ?_)
  have W4 := IN.wr (L := [(p6, ra 2 4 (fun _ => none)), (p5, ia 16 (fun _ => 0)), (p4, ra 4 64 (fun _ => none)), (p3, ra 1 8 (fun _ => none))]) (M := [(p1, ob 5 [.ref p2])]) W3 (ia 6 (upd (upd (upd (upd (upd (fun _ => 0) 0 (nI 10000)) 1 (nI 10000)) 2 (nI 10000)) 3 (nI 10000)) 4 (nI 10000)))
  rw [← hq] at W4
  refine aw_iinc (v := nI 5) (pcn := 71) dX6_init_68 rfl (by decide) rfl (by decide) ?_
  dsimp only [List.set_cons_zero, List.set_cons_succ]
  refine aw_goto (t := 51) dX6_init_71 (by decide) ?_
  refine aw_ilo 1 (pcn := 52) rfl dX6_init_51 rfl rfl ?_
  refine aw_bipush (v := nI 6) (pcn := 54) dX6_init_52 rfl (by decide) ?_
  refine aw_icmp_ge (t := 74) (pcn := 57) dX6_init_54 rfl (by decide) (fun q6 => absurd q6 (by decide)) (fun q6 => ?_)
  refine aw_alo 0 (pcn := 58) rfl dX6_init_57 rfl rfl (rf_some _) ?_
  refine aw_getf (pcn := 61) fl_X6_10 dX6_init_58 rfl W4.self rfl ?_
  refine aw_ilo 1 (pcn := 62) rfl dX6_init_61 rfl rfl ?_
  refine aw_sipush (v := nI 10000) (pcn := 65) dX6_init_62 rfl (by decide) ?_
  refine aw_Vv (pcn := 68) (c_put0 (P := 5) (W4.new (p1, ob 5 [.ref p2]) (by simp)).2.1 (W4.new (p2, ia 6 (upd (upd (upd (upd (upd (fun _ => 0) 0 (nI 10000)) 1 (nI 10000)) 2 (nI 10000)) 3 (nI 10000)) 4 (nI 10000))) (by simp)).2.1 (by decide) (nI 10000)) mf_X5_put mv_X5_put (W4.new (p1, ob 5 [.ref p2]) (by simp)).2.1 rfl ml_X6_38 rfl (by decide) (by decide) (by decide) (by exact Nat.le_of_ble_eq_true rfl) rfl dX6_init_65 rfl (fun w hq => ?_)
  have W5 := IN.wr (L := [(p6, ra 2 4 (fun _ => none)), (p5, ia 16 (fun _ => 0)), (p4, ra 4 64 (fun _ => none)), (p3, ra 1 8 (fun _ => none))]) (M := [(p1, ob 5 [.ref p2])]) W4 (ia 6 (upd (upd (upd (upd (upd (upd (fun _ => 0) 0 (nI 10000)) 1 (nI 10000)) 2 (nI 10000)) 3 (nI 10000)) 4 (nI 10000)) 5 (nI 10000)))
  rw [← hq] at W5
  refine aw_iinc (v := nI 6) (pcn := 71) dX6_init_68 rfl (by decide) rfl (by decide) ?_
  dsimp only [List.set_cons_zero, List.set_cons_succ]
  refine aw_goto (t := 51) dX6_init_71 (by decide) ?_
  refine aw_ilo 1 (pcn := 52) rfl dX6_init_51 rfl rfl ?_
  refine aw_bipush (v := nI 6) (pcn := 54) dX6_init_52 rfl (by decide) ?_
  refine aw_icmp_ge (t := 74) (pcn := 57) dX6_init_54 rfl (by decide) (fun q7 => ?_) (fun q7 => absurd (by decide) q7)
  exact aw_ret dX6_init_74 rfl ⟨rfl, p1, p2, p3, p4, p5, p6, W5⟩
