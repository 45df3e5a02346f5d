set_option maxHeartbeats 1600000 in
set_option maxRecDepth 20000 in
theorem r_init {X : XG} {l : Launch} {h : Hp}  {a0 : Nat} (ha : h a0 = some (ob 7 [.null, .int 0, .int 0, .int 0, .null, .int 0, .null, .null, .null, .null, .null, .null, .null, .null, .null, .null, .null, .null, .int 0, .null, .int 0, .null, .null, .null])) : AM X l yX7_init cX7_init 2 (none) 1 18 2370 [.ref a0] h (qv fun h' => ∃ b0 b4 b6 b7 b8 b9 b10 b11 b12 b13 b14 b15 b16 b17 b19 b21 b22 b23, IN h h' a0 (ob 7 [.ref b0, .int 0, .int 0, .int 0, .ref b4, .int 0, .ref b6, .ref b7, .ref b8, .ref b9, .ref b10, .ref b11, .ref b12, .ref b13, .ref b14, .ref b15, .ref b16, .ref b17, .int 0, .ref b19, .int 0, .ref b21, .ref b22, .ref b23]) [(b23, ia 4 (fun _ => 0)), (b22, ia 4 (fun _ => 0)), (b21, ia 4 (fun _ => 0)), (b19, ia 2240 (fun _ => 0)), (b17, ia 8 (fun _ => 0)), (b16, ia 8 (fun _ => 0)), (b15, ia 8 (fun _ => 0)), (b14, ia 8 (fun _ => 0)), (b13, ia 8 (fun _ => 0)), (b12, ia 8 (fun _ => 0)), (b11, ia 8 (fun _ => 0)), (b10, ia 8 (fun _ => 0)), (b9, ia 8 (fun _ => 0)), (b8, ia 8 (fun _ => 0)), (b7, ia 8 (fun _ => 0)), (b6, ia 8 (fun _ => 0)), (b4, ia 16 (fun _ => 0)), (b0, ia 6 (upd (upd (upd (upd (upd (upd (fun _ => 0) 0 (nI 10000)) 1 (nI 10000)) 2 (nI 10000)) 3 (nI 10000)) 4 (nI 10000)) 5 (nI 10000)))]) := by
  refine AM.of (by decide +kernel) (by simp [Value.category]) (Nat.le_of_ble_eq_true rfl) ?_
  show AW X l cX7_init RX7 "<init>" (none) 2 1 none _ 18 2370 0 [some (.ref a0), none] [] h
  refine aw_alo 0 (pcn := 1) rfl dX7_init_0 rfl rfl (rf_some _) ?_
  refine aw_obj (pcn := 4) ml_X7_1 (by decide) (by decide) dX7_init_1 rfl ?_
  refine aw_alo 0 (pcn := 5) rfl dX7_init_4 rfl rfl (rf_some _) ?_
  refine aw_bipush (v := nI 6) (pcn := 7) dX7_init_5 rfl (by decide) ?_
  refine aw_newi 6 (pcn := 9) (by decide) (by decide) (by decide) (by decide) dX7_init_7 rfl (by omega) (by omega) (fun b0 z0 => ?_)
  have H0 : IN h _ a0 (ob 7 [.null, .int 0, .int 0, .int 0, .null, .int 0, .null, .null, .null, .null, .null, .null, .null, .null, .null, .null, .null, .null, .int 0, .null, .int 0, .null, .null, .null]) [(b0, ia 6 (fun _ => 0))] := (IN.start ha).made z0 (ia 6 (fun _ => 0))
  obtain ⟨h0, e0⟩ : ∃ x, x = hup h b0 (ia 6 (fun _ => 0)) := ⟨_, rfl⟩
  rw [← e0] at H0 ⊢
  refine aw_putF (pcn := 12) ff_X7_7 rfl dX7_init_9 rfl H0.self (by exact Nat.le_of_ble_eq_true rfl) (VF.a _ (some _)) ?_
  dsimp only [List.set_cons_zero, List.set_cons_succ]
  have K0 : IN h _ a0 (ob 7 [.ref b0, .int 0, .int 0, .int 0, .null, .int 0, .null, .null, .null, .null, .null, .null, .null, .null, .null, .null, .null, .null, .int 0, .null, .int 0, .null, .null, .null]) [(b0, ia 6 (fun _ => 0))] := H0.put (ob 7 [.ref b0, .int 0, .int 0, .int 0, .null, .int 0, .null, .null, .null, .null, .null, .null, .null, .null, .null, .null, .null, .null, .int 0, .null, .int 0, .null, .null, .null])
  obtain ⟨g0, f0⟩ : ∃ x, x = hup h0 a0 (ob 7 [.ref b0, .int 0, .int 0, .int 0, .null, .int 0, .null, .null, .null, .null, .null, .null, .null, .null, .null, .null, .null, .null, .int 0, .null, .int 0, .null, .null, .null]) := ⟨_, rfl⟩
  rw [← f0] at K0
  show AW _ _ _ _ _ _ _ _ _ _ _ _ _ _ _ (hup h0 a0 (ob 7 [.ref b0, .int 0, .int 0, .int 0, .null, .int 0, .null, .null, .null, .null, .null, .null, .null, .null, .null, .null, .null, .null, .int 0, .null, .int 0, .null, .null, .null]))
  rw [← f0]
  refine aw_alo 0 (pcn := 13) rfl dX7_init_12 rfl rfl (rf_some _) ?_
  refine aw_bipush (v := nI 16) (pcn := 15) dX7_init_13 rfl (by decide) ?_
  refine aw_newi 16 (pcn := 17) (by decide) (by decide) (by decide) (by decide) dX7_init_15 rfl (by omega) (by omega) (fun b4 z4 => ?_)
  have H1 : IN h _ a0 (ob 7 [.ref b0, .int 0, .int 0, .int 0, .null, .int 0, .null, .null, .null, .null, .null, .null, .null, .null, .null, .null, .null, .null, .int 0, .null, .int 0, .null, .null, .null]) [(b4, ia 16 (fun _ => 0)), (b0, ia 6 (fun _ => 0))] := K0.made z4 (ia 16 (fun _ => 0))
  obtain ⟨h1, e1⟩ : ∃ x, x = hup g0 b4 (ia 16 (fun _ => 0)) := ⟨_, rfl⟩
  rw [← e1] at H1 ⊢
  refine aw_putF (pcn := 20) ff_X7_13 rfl dX7_init_17 rfl H1.self (by exact Nat.le_of_ble_eq_true rfl) (VF.a _ (some _)) ?_
  dsimp only [List.set_cons_zero, List.set_cons_succ]
  have K1 : IN h _ a0 (ob 7 [.ref b0, .int 0, .int 0, .int 0, .ref b4, .int 0, .null, .null, .null, .null, .null, .null, .null, .null, .null, .null, .null, .null, .int 0, .null, .int 0, .null, .null, .null]) [(b4, ia 16 (fun _ => 0)), (b0, ia 6 (fun _ => 0))] := H1.put (ob 7 [.ref b0, .int 0, .int 0, .int 0, .ref b4, .int 0, .null, .null, .null, .null, .null, .null, .null, .null, .null, .null, .null, .null, .int 0, .null, .int 0, .null, .null, .null])
  obtain ⟨g1, f1⟩ : ∃ x, x = hup h1 a0 (ob 7 [.ref b0, .int 0, .int 0, .int 0, .ref b4, .int 0, .null, .null, .null, .null, .null, .null, .null, .null, .null, .null, .null, .null, .int 0, .null, .int 0, .null, .null, .null]) := ⟨_, rfl⟩
  rw [← f1] at K1
  show AW _ _ _ _ _ _ _ _ _ _ _ _ _ _ _ (hup h1 a0 (ob 7 [.ref b0, .int 0, .int 0, .int 0, .ref b4, .int 0, .null, .null, .null, .null, .null, .null, .null, .null, .null, .null, .null, .null, .int 0, .null, .int 0, .null, .null, .null]))
  rw [← f1]
  refine aw_alo 0 (pcn := 21) rfl dX7_init_20 rfl rfl (rf_some _) ?_
  refine aw_bipush (v := nI 8) (pcn := 23) dX7_init_21 rfl (by decide) ?_
  refine aw_newi 8 (pcn := 25) (by decide) (by decide) (by decide) (by decide) dX7_init_23 rfl (by omega) (by omega) (fun b6 z6 => ?_)
  have H2 : IN h _ a0 (ob 7 [.ref b0, .int 0, .int 0, .int 0, .ref b4, .int 0, .null, .null, .null, .null, .null, .null, .null, .null, .null, .null, .null, .null, .int 0, .null, .int 0, .null, .null, .null]) [(b6, ia 8 (fun _ => 0)), (b4, ia 16 (fun _ => 0)), (b0, ia 6 (fun _ => 0))] := K1.made z6 (ia 8 (fun _ => 0))
  obtain ⟨h2, e2⟩ : ∃ x, x = hup g1 b6 (ia 8 (fun _ => 0)) := ⟨_, rfl⟩
  rw [← e2] at H2 ⊢
  refine aw_putF (pcn := 28) ff_X7_16 rfl dX7_init_25 rfl H2.self (by exact Nat.le_of_ble_eq_true rfl) (VF.a _ (some _)) ?_
  dsimp only [List.set_cons_zero, List.set_cons_succ]
  have K2 : IN h _ a0 (ob 7 [.ref b0, .int 0, .int 0, .int 0, .ref b4, .int 0, .ref b6, .null, .null, .null, .null, .null, .null, .null, .null, .null, .null, .null, .int 0, .null, .int 0, .null, .null, .null]) [(b6, ia 8 (fun _ => 0)), (b4, ia 16 (fun _ => 0)), (b0, ia 6 (fun _ => 0))] := H2.put (ob 7 [.ref b0, .int 0, .int 0, .int 0, .ref b4, .int 0, .ref b6, .null, .null, .null, .null, .null, .null, .null, .null, .null, .null, .null, .int 0, .null, .int 0, .null, .null, .null])
  obtain ⟨g2, f2⟩ : ∃ x, x = hup h2 a0 (ob 7 [.ref b0, .int 0, .int 0, .int 0, .ref b4, .int 0, .ref b6, .null, .null, .null, .null, .null, .null, .null, .null, .null, .null, .null, .int 0, .null, .int 0, .null, .null, .null]) := ⟨_, rfl⟩
  rw [← f2] at K2
  show AW _ _ _ _ _ _ _ _ _ _ _ _ _ _ _ (hup h2 a0 (ob 7 [.ref b0, .int 0, .int 0, .int 0, .ref b4, .int 0, .ref b6, .null, .null, .null, .null, .null, .null, .null, .null, .null, .null, .null, .int 0, .null, .int 0, .null, .null, .null]))
  rw [← f2]
  refine aw_alo 0 (pcn := 29) rfl dX7_init_28 rfl rfl (rf_some _) ?_
  refine aw_bipush (v := nI 8) (pcn := 31) dX7_init_29 rfl (by decide) ?_
  refine aw_newi 8 (pcn := 33) (by decide) (by decide) (by decide) (by decide) dX7_init_31 rfl (by omega) (by omega) (fun b7 z7 => ?_)
  have H3 : IN h _ a0 (ob 7 [.ref b0, .int 0, .int 0, .int 0, .ref b4, .int 0, .ref b6, .null, .null, .null, .null, .null, .null, .null, .null, .null, .null, .null, .int 0, .null, .int 0, .null, .null, .null]) [(b7, ia 8 (fun _ => 0)), (b6, ia 8 (fun _ => 0)), (b4, ia 16 (fun _ => 0)), (b0, ia 6 (fun _ => 0))] := K2.made z7 (ia 8 (fun _ => 0))
  obtain ⟨h3, e3⟩ : ∃ x, x = hup g2 b7 (ia 8 (fun _ => 0)) := ⟨_, rfl⟩
  rw [← e3] at H3 ⊢
  refine aw_putF (pcn := 36) ff_X7_19 rfl dX7_init_33 rfl H3.self (by exact Nat.le_of_ble_eq_true rfl) (VF.a _ (some _)) ?_
  dsimp only [List.set_cons_zero, List.set_cons_succ]
  have K3 : IN h _ a0 (ob 7 [.ref b0, .int 0, .int 0, .int 0, .ref b4, .int 0, .ref b6, .ref b7, .null, .null, .null, .null, .null, .null, .null, .null, .null, .null, .int 0, .null, .int 0, .null, .null, .null]) [(b7, ia 8 (fun _ => 0)), (b6, ia 8 (fun _ => 0)), (b4, ia 16 (fun _ => 0)), (b0, ia 6 (fun _ => 0))] := H3.put (ob 7 [.ref b0, .int 0, .int 0, .int 0, .ref b4, .int 0, .ref b6, .ref b7, .null, .null, .null, .null, .null, .null, .null, .null, .null, .null, .int 0, .null, .int 0, .null, .null, .null])
  obtain ⟨g3, f3⟩ : ∃ x, x = hup h3 a0 (ob 7 [.ref b0, .int 0, .int 0, .int 0, .ref b4, .int 0, .ref b6, .ref b7, .null, .null, .null, .null, .null, .null, .null, .null, .null, .null, .int 0, .null, .int 0, .null, .null, .null]) := ⟨_, rfl⟩
  rw [← f3] at K3
  show AW _ _ _ _ _ _ _ _ _ _ _ _ _ _ _ (hup h3 a0 (ob 7 [.ref b0, .int 0, .int 0, .int 0, .ref b4, .int 0, .ref b6, .ref b7, .null, .null, .null, .null, .null, .null, .null, .null, .null, .null, .int 0, .null, .int 0, .null, .null, .null]))
  rw [← f3]
  refine aw_alo 0 (pcn := 37) rfl dX7_init_36 rfl rfl (rf_some _) ?_
  refine aw_bipush (v := nI 8) (pcn := 39) dX7_init_37 rfl (by decide) ?_
  refine aw_newi 8 (pcn := 41) (by decide) (by decide) (by decide) (by decide) dX7_init_39 rfl (by omega) (by omega) (fun b8 z8 => ?_)
  have H4 : IN h _ a0 (ob 7 [.ref b0, .int 0, .int 0, .int 0, .ref b4, .int 0, .ref b6, .ref b7, .null, .null, .null, .null, .null, .null, .null, .null, .null, .null, .int 0, .null, .int 0, .null, .null, .null]) [(b8, ia 8 (fun _ => 0)), (b7, ia 8 (fun _ => 0)), (b6, ia 8 (fun _ => 0)), (b4, ia 16 (fun _ => 0)), (b0, ia 6 (fun _ => 0))] := K3.made z8 (ia 8 (fun _ => 0))
  obtain ⟨h4, e4⟩ : ∃ x, x = hup g3 b8 (ia 8 (fun _ => 0)) := ⟨_, rfl⟩
  rw [← e4] at H4 ⊢
  refine aw_putF (pcn := 44) ff_X7_22 rfl dX7_init_41 rfl H4.self (by exact Nat.le_of_ble_eq_true rfl) (VF.a _ (some _)) ?_
  dsimp only [List.set_cons_zero, List.set_cons_succ]
  have K4 : IN h _ a0 (ob 7 [.ref b0, .int 0, .int 0, .int 0, .ref b4, .int 0, .ref b6, .ref b7, .ref b8, .null, .null, .null, .null, .null, .null, .null, .null, .null, .int 0, .null, .int 0, .null, .null, .null]) [(b8, ia 8 (fun _ => 0)), (b7, ia 8 (fun _ => 0)), (b6, ia 8 (fun _ => 0)), (b4, ia 16 (fun _ => 0)), (b0, ia 6 (fun _ => 0))] := H4.put (ob 7 [.ref b0, .int 0, .int 0, .int 0, .ref b4, .int 0, .ref b6, .ref b7, .ref b8, .null, .null, .null, .null, .null, .null, .null, .null, .null, .int 0, .null, .int 0, .null, .null, .null])
  obtain ⟨g4, f4⟩ : ∃ x, x = hup h4 a0 (ob 7 [.ref b0, .int 0, .int 0, .int 0, .ref b4, .int 0, .ref b6, .ref b7, .ref b8, .null, .null, .null, .null, .null, .null, .null, .null, .null, .int 0, .null, .int 0, .null, .null, .null]) := ⟨_, rfl⟩
  rw [← f4] at K4
  show AW _ _ _ _ _ _ _ _ _ _ _ _ _ _ _ (hup h4 a0 (ob 7 [.ref b0, .int 0, .int 0, .int 0, .ref b4, .int 0, .ref b6, .ref b7, .ref b8, .null, .null, .null, .null, .null, .null, .null, .null, .null, .int 0, .null, .int 0, .null, .null, .null]))
  rw [← f4]
  refine aw_alo 0 (pcn := 45) rfl dX7_init_44 rfl rfl (rf_some _) ?_
  refine aw_bipush (v := nI 8) (pcn := 47) dX7_init_45 rfl (by decide) ?_
  refine aw_newi 8 (pcn := 49) (by decide) (by decide) (by decide) (by decide) dX7_init_47 rfl (by omega) (by omega) (fun b9 z9 => ?_)
  have H5 : IN h _ a0 (ob 7 [.ref b0, .int 0, .int 0, .int 0, .ref b4, .int 0, .ref b6, .ref b7, .ref b8, .null, .null, .null, .null, .null, .null, .null, .null, .null, .int 0, .null, .int 0, .null, .null, .null]) [(b9, ia 8 (fun _ => 0)), (b8, ia 8 (fun _ => 0)), (b7, ia 8 (fun _ => 0)), (b6, ia 8 (fun _ => 0)), (b4, ia 16 (fun _ => 0)), (b0, ia 6 (fun _ => 0))] := K4.made z9 (ia 8 (fun _ => 0))
  obtain ⟨h5, e5⟩ : ∃ x, x = hup g4 b9 (ia 8 (fun _ => 0)) := ⟨_, rfl⟩
  rw [← e5] at H5 ⊢
  refine aw_putF (pcn := 52) ff_X7_25 rfl dX7_init_49 rfl H5.self (by exact Nat.le_of_ble_eq_true rfl) (VF.a _ (some _)) ?_
  dsimp only [List.set_cons_zero, List.set_cons_succ]
  have K5 : IN h _ a0 (ob 7 [.ref b0, .int 0, .int 0, .int 0, .ref b4, .int 0, .ref b6, .ref b7, .ref b8, .ref b9, .null, .null, .null, .null, .null, .null, .null, .null, .int 0, .null, .int 0, .null, .null, .null]) [(b9, ia 8 (fun _ => 0)), (b8, ia 8 (fun _ => 0)), (b7, ia 8 (fun _ => 0)), (b6, ia 8 (fun _ => 0)), (b4, ia 16 (fun _ => 0)), (b0, ia 6 (fun _ => 0))] := H5.put (ob 7 [.ref b0, .int 0, .int 0, .int 0, .ref b4, .int 0, .ref b6, .ref b7, .ref b8, .ref b9, .null, .null, .null, .null, .null, .null, .null, .null, .int 0, .null, .int 0, .null, .null, .null])
  obtain ⟨g5, f5⟩ : ∃ x, x = hup h5 a0 (ob 7 [.ref b0, .int 0, .int 0, .int 0, .ref b4, .int 0, .ref b6, .ref b7, .ref b8, .ref b9, .null, .null, .null, .null, .null, .null, .null, .null, .int 0, .null, .int 0, .null, .null, .null]) := ⟨_, rfl⟩
  rw [← f5] at K5
  show AW _ _ _ _ _ _ _ _ _ _ _ _ _ _ _ (hup h5 a0 (ob 7 [.ref b0, .int 0, .int 0, .int 0, .ref b4, .int 0, .ref b6, .ref b7, .ref b8, .ref b9, .null, .null, .null, .null, .null, .null, .null, .null, .int 0, .null, .int 0, .null, .null, .null]))
  rw [← f5]
  refine aw_alo 0 (pcn := 53) rfl dX7_init_52 rfl rfl (rf_some _) ?_
  refine aw_bipush (v := nI 8) (pcn := 55) dX7_init_53 rfl (by decide) ?_
  refine aw_newi 8 (pcn := 57) (by decide) (by decide) (by decide) (by decide) dX7_init_55 rfl (by omega) (by omega) (fun b10 z10 => ?_)
  have H6 : IN h _ a0 (ob 7 [.ref b0, .int 0, .int 0, .int 0, .ref b4, .int 0, .ref b6, .ref b7, .ref b8, .ref b9, .null, .null, .null, .null, .null, .null, .null, .null, .int 0, .null, .int 0, .null, .null, .null]) [(b10, ia 8 (fun _ => 0)), (b9, ia 8 (fun _ => 0)), (b8, ia 8 (fun _ => 0)), (b7, ia 8 (fun _ => 0)), (b6, ia 8 (fun _ => 0)), (b4, ia 16 (fun _ => 0)), (b0, ia 6 (fun _ => 0))] := K5.made z10 (ia 8 (fun _ => 0))
  obtain ⟨h6, e6⟩ : ∃ x, x = hup g5 b10 (ia 8 (fun _ => 0)) := ⟨_, rfl⟩
  rw [← e6] at H6 ⊢
  refine aw_putF (pcn := 60) ff_X7_28 rfl dX7_init_57 rfl H6.self (by exact Nat.le_of_ble_eq_true rfl) (VF.a _ (some _)) ?_
  dsimp only [List.set_cons_zero, List.set_cons_succ]
  have K6 : IN h _ a0 (ob 7 [.ref b0, .int 0, .int 0, .int 0, .ref b4, .int 0, .ref b6, .ref b7, .ref b8, .ref b9, .ref b10, .null, .null, .null, .null, .null, .null, .null, .int 0, .null, .int 0, .null, .null, .null]) [(b10, ia 8 (fun _ => 0)), (b9, ia 8 (fun _ => 0)), (b8, ia 8 (fun _ => 0)), (b7, ia 8 (fun _ => 0)), (b6, ia 8 (fun _ => 0)), (b4, ia 16 (fun _ => 0)), (b0, ia 6 (fun _ => 0))] := H6.put (ob 7 [.ref b0, .int 0, .int 0, .int 0, .ref b4, .int 0, .ref b6, .ref b7, .ref b8, .ref b9, .ref b10, .null, .null, .null, .null, .null, .null, .null, .int 0, .null, .int 0, .null, .null, .null])
  obtain ⟨g6, f6⟩ : ∃ x, x = hup h6 a0 (ob 7 [.ref b0, .int 0, .int 0, .int 0, .ref b4, .int 0, .ref b6, .ref b7, .ref b8, .ref b9, .ref b10, .null, .null, .null, .null, .null, .null, .null, .int 0, .null, .int 0, .null, .null, .null]) := ⟨_, rfl⟩
  rw [← f6] at K6
  show AW _ _ _ _ _ _ _ _ _ _ _ _ _ _ _ (hup h6 a0 (ob 7 [.ref b0, .int 0, .int 0, .int 0, .ref b4, .int 0, .ref b6, .ref b7, .ref b8, .ref b9, .ref b10, .null, .null, .null, .null, .null, .null, .null, .int 0, .null, .int 0, .null, .null, .null]))
  rw [← f6]
  refine aw_alo 0 (pcn := 61) rfl dX7_init_60 rfl rfl (rf_some _) ?_
  refine aw_bipush (v := nI 8) (pcn := 63) dX7_init_61 rfl (by decide) ?_
  refine aw_newi 8 (pcn := 65) (by decide) (by decide) (by decide) (by decide) dX7_init_63 rfl (by omega) (by omega) (fun b11 z11 => ?_)
  have H7 : IN h _ a0 (ob 7 [.ref b0, .int 0, .int 0, .int 0, .ref b4, .int 0, .ref b6, .ref b7, .ref b8, .ref b9, .ref b10, .null, .null, .null, .null, .null, .null, .null, .int 0, .null, .int 0, .null, .null, .null]) [(b11, ia 8 (fun _ => 0)), (b10, ia 8 (fun _ => 0)), (b9, ia 8 (fun _ => 0)), (b8, ia 8 (fun _ => 0)), (b7, ia 8 (fun _ => 0)), (b6, ia 8 (fun _ => 0)), (b4, ia 16 (fun _ => 0)), (b0, ia 6 (fun _ => 0))] := K6.made z11 (ia 8 (fun _ => 0))
  obtain ⟨h7, e7⟩ : ∃ x, x = hup g6 b11 (ia 8 (fun _ => 0)) := ⟨_, rfl⟩
  rw [← e7] at H7 ⊢
  refine aw_putF (pcn := 68) ff_X7_31 rfl dX7_init_65 rfl H7.self (by exact Nat.le_of_ble_eq_true rfl) (VF.a _ (some _)) ?_
  dsimp only [List.set_cons_zero, List.set_cons_succ]
  have K7 : IN h _ a0 (ob 7 [.ref b0, .int 0, .int 0, .int 0, .ref b4, .int 0, .ref b6, .ref b7, .ref b8, .ref b9, .ref b10, .ref b11, .null, .null, .null, .null, .null, .null, .int 0, .null, .int 0, .null, .null, .null]) [(b11, ia 8 (fun _ => 0)), (b10, ia 8 (fun _ => 0)), (b9, ia 8 (fun _ => 0)), (b8, ia 8 (fun _ => 0)), (b7, ia 8 (fun _ => 0)), (b6, ia 8 (fun _ => 0)), (b4, ia 16 (fun _ => 0)), (b0, ia 6 (fun _ => 0))] := H7.put (ob 7 [.ref b0, .int 0, .int 0, .int 0, .ref b4, .int 0, .ref b6, .ref b7, .ref b8, .ref b9, .ref b10, .ref b11, .null, .null, .null, .null, .null, .null, .int 0, .null, .int 0, .null, .null, .null])
  obtain ⟨g7, f7⟩ : ∃ x, x = hup h7 a0 (ob 7 [.ref b0, .int 0, .int 0, .int 0, .ref b4, .int 0, .ref b6, .ref b7, .ref b8, .ref b9, .ref b10, .ref b11, .null, .null, .null, .null, .null, .null, .int 0, .null, .int 0, .null, .null, .null]) := ⟨_, rfl⟩
  rw [← f7] at K7
  show AW _ _ _ _ _ _ _ _ _ _ _ _ _ _ _ (hup h7 a0 (ob 7 [.ref b0, .int 0, .int 0, .int 0, .ref b4, .int 0, .ref b6, .ref b7, .ref b8, .ref b9, .ref b10, .ref b11, .null, .null, .null, .null, .null, .null, .int 0, .null, .int 0, .null, .null, .null]))
  rw [← f7]
  refine aw_alo 0 (pcn := 69) rfl dX7_init_68 rfl rfl (rf_some _) ?_
  refine aw_bipush (v := nI 8) (pcn := 71) dX7_init_69 rfl (by decide) ?_
  refine aw_newi 8 (pcn := 73) (by decide) (by decide) (by decide) (by decide) dX7_init_71 rfl (by omega) (by omega) (fun b12 z12 => ?_)
  have H8 : IN h _ a0 (ob 7 [.ref b0, .int 0, .int 0, .int 0, .ref b4, .int 0, .ref b6, .ref b7, .ref b8, .ref b9, .ref b10, .ref b11, .null, .null, .null, .null, .null, .null, .int 0, .null, .int 0, .null, .null, .null]) [(b12, ia 8 (fun _ => 0)), (b11, ia 8 (fun _ => 0)), (b10, ia 8 (fun _ => 0)), (b9, ia 8 (fun _ => 0)), (b8, ia 8 (fun _ => 0)), (b7, ia 8 (fun _ => 0)), (b6, ia 8 (fun _ => 0)), (b4, ia 16 (fun _ => 0)), (b0, ia 6 (fun _ => 0))] := K7.made z12 (ia 8 (fun _ => 0))
  obtain ⟨h8, e8⟩ : ∃ x, x = hup g7 b12 (ia 8 (fun _ => 0)) := ⟨_, rfl⟩
  rw [← e8] at H8 ⊢
  refine aw_putF (pcn := 76) ff_X7_34 rfl dX7_init_73 rfl H8.self (by exact Nat.le_of_ble_eq_true rfl) (VF.a _ (some _)) ?_
  dsimp only [List.set_cons_zero, List.set_cons_succ]
  have K8 : IN h _ a0 (ob 7 [.ref b0, .int 0, .int 0, .int 0, .ref b4, .int 0, .ref b6, .ref b7, .ref b8, .ref b9, .ref b10, .ref b11, .ref b12, .null, .null, .null, .null, .null, .int 0, .null, .int 0, .null, .null, .null]) [(b12, ia 8 (fun _ => 0)), (b11, ia 8 (fun _ => 0)), (b10, ia 8 (fun _ => 0)), (b9, ia 8 (fun _ => 0)), (b8, ia 8 (fun _ => 0)), (b7, ia 8 (fun _ => 0)), (b6, ia 8 (fun _ => 0)), (b4, ia 16 (fun _ => 0)), (b0, ia 6 (fun _ => 0))] := H8.put (ob 7 [.ref b0, .int 0, .int 0, .int 0, .ref b4, .int 0, .ref b6, .ref b7, .ref b8, .ref b9, .ref b10, .ref b11, .ref b12, .null, .null, .null, .null, .null, .int 0, .null, .int 0, .null, .null, .null])
  obtain ⟨g8, f8⟩ : ∃ x, x = hup h8 a0 (ob 7 [.ref b0, .int 0, .int 0, .int 0, .ref b4, .int 0, .ref b6, .ref b7, .ref b8, .ref b9, .ref b10, .ref b11, .ref b12, .null, .null, .null, .null, .null, .int 0, .null, .int 0, .null, .null, .null]) := ⟨_, rfl⟩
  rw [← f8] at K8
  show AW _ _ _ _ _ _ _ _ _ _ _ _ _ _ _ (hup h8 a0 (ob 7 [.ref b0, .int 0, .int 0, .int 0, .ref b4, .int 0, .ref b6, .ref b7, .ref b8, .ref b9, .ref b10, .ref b11, .ref b12, .null, .null, .null, .null, .null, .int 0, .null, .int 0, .null, .null, .null]))
  rw [← f8]
  refine aw_alo 0 (pcn := 77) rfl dX7_init_76 rfl rfl (rf_some _) ?_
  refine aw_bipush (v := nI 8) (pcn := 79) dX7_init_77 rfl (by decide) ?_
  refine aw_newi 8 (pcn := 81) (by decide) (by decide) (by decide) (by decide) dX7_init_79 rfl (by omega) (by omega) (fun b13 z13 => ?_)
  have H9 : IN h _ a0 (ob 7 [.ref b0, .int 0, .int 0, .int 0, .ref b4, .int 0, .ref b6, .ref b7, .ref b8, .ref b9, .ref b10, .ref b11, .ref b12, .null, .null, .null, .null, .null, .int 0, .null, .int 0, .null, .null, .null]) [(b13, ia 8 (fun _ => 0)), (b12, ia 8 (fun _ => 0)), (b11, ia 8 (fun _ => 0)), (b10, ia 8 (fun _ => 0)), (b9, ia 8 (fun _ => 0)), (b8, ia 8 (fun _ => 0)), (b7, ia 8 (fun _ => 0)), (b6, ia 8 (fun _ => 0)), (b4, ia 16 (fun _ => 0)), (b0, ia 6 (fun _ => 0))] := K8.made z13 (ia 8 (fun _ => 0))
  obtain ⟨h9, e9⟩ : ∃ x, x = hup g8 b13 (ia 8 (fun _ => 0)) := ⟨_, rfl⟩
  rw [← e9] at H9 ⊢
  refine aw_putF (pcn := 84) ff_X7_37 rfl dX7_init_81 rfl H9.self (by exact Nat.le_of_ble_eq_true rfl) (VF.a _ (some _)) ?_
  dsimp only [List.set_cons_zero, List.set_cons_succ]
  have K9 : IN h _ a0 (ob 7 [.ref b0, .int 0, .int 0, .int 0, .ref b4, .int 0, .ref b6, .ref b7, .ref b8, .ref b9, .ref b10, .ref b11, .ref b12, .ref b13, .null, .null, .null, .null, .int 0, .null, .int 0, .null, .null, .null]) [(b13, ia 8 (fun _ => 0)), (b12, ia 8 (fun _ => 0)), (b11, ia 8 (fun _ => 0)), (b10, ia 8 (fun _ => 0)), (b9, ia 8 (fun _ => 0)), (b8, ia 8 (fun _ => 0)), (b7, ia 8 (fun _ => 0)), (b6, ia 8 (fun _ => 0)), (b4, ia 16 (fun _ => 0)), (b0, ia 6 (fun _ => 0))] := H9.put (ob 7 [.ref b0, .int 0, .int 0, .int 0, .ref b4, .int 0, .ref b6, .ref b7, .ref b8, .ref b9, .ref b10, .ref b11, .ref b12, .ref b13, .null, .null, .null, .null, .int 0, .null, .int 0, .null, .null, .null])
  obtain ⟨g9, f9⟩ : ∃ x, x = hup h9 a0 (ob 7 [.ref b0, .int 0, .int 0, .int 0, .ref b4, .int 0, .ref b6, .ref b7, .ref b8, .ref b9, .ref b10, .ref b11, .ref b12, .ref b13, .null, .null, .null, .null, .int 0, .null, .int 0, .null, .null, .null]) := ⟨_, rfl⟩
  rw [← f9] at K9
  show AW _ _ _ _ _ _ _ _ _ _ _ _ _ _ _ (hup h9 a0 (ob 7 [.ref b0, .int 0, .int 0, .int 0, .ref b4, .int 0, .ref b6, .ref b7, .ref b8, .ref b9, .ref b10, .ref b11, .ref b12, .ref b13, .null, .null, .null, .null, .int 0, .null, .int 0, .null, .null, .null]))
  rw [← f9]
  refine aw_alo 0 (pcn := 85) rfl dX7_init_84 rfl rfl (rf_some _) ?_
  refine aw_bipush (v := nI 8) (pcn := 87) dX7_init_85 rfl (by decide) ?_
  refine aw_newi 8 (pcn := 89) (by decide) (by decide) (by decide) (by decide) dX7_init_87 rfl (by omega) (by omega) (fun b14 z14 => ?_)
  have H10 : IN h _ a0 (ob 7 [.ref b0, .int 0, .int 0, .int 0, .ref b4, .int 0, .ref b6, .ref b7, .ref b8, .ref b9, .ref b10, .ref b11, .ref b12, .ref b13, .null, .null, .null, .null, .int 0, .null, .int 0, .null, .null, .null]) [(b14, ia 8 (fun _ => 0)), (b13, ia 8 (fun _ => 0)), (b12, ia 8 (fun _ => 0)), (b11, ia 8 (fun _ => 0)), (b10, ia 8 (fun _ => 0)), (b9, ia 8 (fun _ => 0)), (b8, ia 8 (fun _ => 0)), (b7, ia 8 (fun _ => 0)), (b6, ia 8 (fun _ => 0)), (b4, ia 16 (fun _ => 0)), (b0, ia 6 (fun _ => 0))] := K9.made z14 (ia 8 (fun _ => 0))
  obtain ⟨h10, e10⟩ : ∃ x, x = hup g9 b14 (ia 8 (fun _ => 0)) := ⟨_, rfl⟩
  rw [← e10] at H10 ⊢
  refine aw_putF (pcn := 92) ff_X7_40 rfl dX7_init_89 rfl H10.self (by exact Nat.le_of_ble_eq_true rfl) (VF.a _ (some _)) ?_
  dsimp only [List.set_cons_zero, List.set_cons_succ]
  have K10 : IN h _ a0 (ob 7 [.ref b0, .int 0, .int 0, .int 0, .ref b4, .int 0, .ref b6, .ref b7, .ref b8, .ref b9, .ref b10, .ref b11, .ref b12, .ref b13, .ref b14, .null, .null, .null, .int 0, .null, .int 0, .null, .null, .null]) [(b14, ia 8 (fun _ => 0)), (b13, ia 8 (fun _ => 0)), (b12, ia 8 (fun _ => 0)), (b11, ia 8 (fun _ => 0)), (b10, ia 8 (fun _ => 0)), (b9, ia 8 (fun _ => 0)), (b8, ia 8 (fun _ => 0)), (b7, ia 8 (fun _ => 0)), (b6, ia 8 (fun _ => 0)), (b4, ia 16 (fun _ => 0)), (b0, ia 6 (fun _ => 0))] := H10.put (ob 7 [.ref b0, .int 0, .int 0, .int 0, .ref b4, .int 0, .ref b6, .ref b7, .ref b8, .ref b9, .ref b10, .ref b11, .ref b12, .ref b13, .ref b14, .null, .null, .null, .int 0, .null, .int 0, .null, .null, .null])
  obtain ⟨g10, f10⟩ : ∃ x, x = hup h10 a0 (ob 7 [.ref b0, .int 0, .int 0, .int 0, .ref b4, .int 0, .ref b6, .ref b7, .ref b8, .ref b9, .ref b10, .ref b11, .ref b12, .ref b13, .ref b14, .null, .null, .null, .int 0, .null, .int 0, .null, .null, .null]) := ⟨_, rfl⟩
  rw [← f10] at K10
  show AW _ _ _ _ _ _ _ _ _ _ _ _ _ _ _ (hup h10 a0 (ob 7 [.ref b0, .int 0, .int 0, .int 0, .ref b4, .int 0, .ref b6, .ref b7, .ref b8, .ref b9, .ref b10, .ref b11, .ref b12, .ref b13, .ref b14, .null, .null, .null, .int 0, .null, .int 0, .null, .null, .null]))
  rw [← f10]
  refine aw_alo 0 (pcn := 93) rfl dX7_init_92 rfl rfl (rf_some _) ?_
  refine aw_bipush (v := nI 8) (pcn := 95) dX7_init_93 rfl (by decide) ?_
  refine aw_newi 8 (pcn := 97) (by decide) (by decide) (by decide) (by decide) dX7_init_95 rfl (by omega) (by omega) (fun b15 z15 => ?_)
  have H11 : IN h _ a0 (ob 7 [.ref b0, .int 0, .int 0, .int 0, .ref b4, .int 0, .ref b6, .ref b7, .ref b8, .ref b9, .ref b10, .ref b11, .ref b12, .ref b13, .ref b14, .null, .null, .null, .int 0, .null, .int 0, .null, .null, .null]) [(b15, ia 8 (fun _ => 0)), (b14, ia 8 (fun _ => 0)), (b13, ia 8 (fun _ => 0)), (b12, ia 8 (fun _ => 0)), (b11, ia 8 (fun _ => 0)), (b10, ia 8 (fun _ => 0)), (b9, ia 8 (fun _ => 0)), (b8, ia 8 (fun _ => 0)), (b7, ia 8 (fun _ => 0)), (b6, ia 8 (fun _ => 0)), (b4, ia 16 (fun _ => 0)), (b0, ia 6 (fun _ => 0))] := K10.made z15 (ia 8 (fun _ => 0))
  obtain ⟨h11, e11⟩ : ∃ x, x = hup g10 b15 (ia 8 (fun _ => 0)) := ⟨_, rfl⟩
  rw [← e11] at H11 ⊢
  refine aw_putF (pcn := 100) ff_X7_43 rfl dX7_init_97 rfl H11.self (by exact Nat.le_of_ble_eq_true rfl) (VF.a _ (some _)) ?_
  dsimp only [List.set_cons_zero, List.set_cons_succ]
  have K11 : IN h _ a0 (ob 7 [.ref b0, .int 0, .int 0, .int 0, .ref b4, .int 0, .ref b6, .ref b7, .ref b8, .ref b9, .ref b10, .ref b11, .ref b12, .ref b13, .ref b14, .ref b15, .null, .null, .int 0, .null, .int 0, .null, .null, .null]) [(b15, ia 8 (fun _ => 0)), (b14, ia 8 (fun _ => 0)), (b13, ia 8 (fun _ => 0)), (b12, ia 8 (fun _ => 0)), (b11, ia 8 (fun _ => 0)), (b10, ia 8 (fun _ => 0)), (b9, ia 8 (fun _ => 0)), (b8, ia 8 (fun _ => 0)), (b7, ia 8 (fun _ => 0)), (b6, ia 8 (fun _ => 0)), (b4, ia 16 (fun _ => 0)), (b0, ia 6 (fun _ => 0))] := H11.put (ob 7 [.ref b0, .int 0, .int 0, .int 0, .ref b4, .int 0, .ref b6, .ref b7, .ref b8, .ref b9, .ref b10, .ref b11, .ref b12, .ref b13, .ref b14, .ref b15, .null, .null, .int 0, .null, .int 0, .null, .null, .null])
  obtain ⟨g11, f11⟩ : ∃ x, x = hup h11 a0 (ob 7 [.ref b0, .int 0, .int 0, .int 0, .ref b4, .int 0, .ref b6, .ref b7, .ref b8, .ref b9, .ref b10, .ref b11, .ref b12, .ref b13, .ref b14, .ref b15, .null, .null, .int 0, .null, .int 0, .null, .null, .null]) := ⟨_, rfl⟩
  rw [← f11] at K11
  show AW _ _ _ _ _ _ _ _ _ _ _ _ _ _ _ (hup h11 a0 (ob 7 [.ref b0, .int 0, .int 0, .int 0, .ref b4, .int 0, .ref b6, .ref b7, .ref b8, .ref b9, .ref b10, .ref b11, .ref b12, .ref b13, .ref b14, .ref b15, .null, .null, .int 0, .null, .int 0, .null, .null, .null]))
  rw [← f11]
  refine aw_alo 0 (pcn := 101) rfl dX7_init_100 rfl rfl (rf_some _) ?_
  refine aw_bipush (v := nI 8) (pcn := 103) dX7_init_101 rfl (by decide) ?_
  refine aw_newi 8 (pcn := 105) (by decide) (by decide) (by decide) (by decide) dX7_init_103 rfl (by omega) (by omega) (fun b16 z16 => ?_)
  have H12 : IN h _ a0 (ob 7 [.ref b0, .int 0, .int 0, .int 0, .ref b4, .int 0, .ref b6, .ref b7, .ref b8, .ref b9, .ref b10, .ref b11, .ref b12, .ref b13, .ref b14, .ref b15, .null, .null, .int 0, .null, .int 0, .null, .null, .null]) [(b16, ia 8 (fun _ => 0)), (b15, ia 8 (fun _ => 0)), (b14, ia 8 (fun _ => 0)), (b13, ia 8 (fun _ => 0)), (b12, ia 8 (fun _ => 0)), (b11, ia 8 (fun _ => 0)), (b10, ia 8 (fun _ => 0)), (b9, ia 8 (fun _ => 0)), (b8, ia 8 (fun _ => 0)), (b7, ia 8 (fun _ => 0)), (b6, ia 8 (fun _ => 0)), (b4, ia 16 (fun _ => 0)), (b0, ia 6 (fun _ => 0))] := K11.made z16 (ia 8 (fun _ => 0))
  obtain ⟨h12, e12⟩ : ∃ x, x = hup g11 b16 (ia 8 (fun _ => 0)) := ⟨_, rfl⟩
  rw [← e12] at H12 ⊢
  refine aw_putF (pcn := 108) ff_X7_46 rfl dX7_init_105 rfl H12.self (by exact Nat.le_of_ble_eq_true rfl) (VF.a _ (some _)) ?_
  dsimp only [List.set_cons_zero, List.set_cons_succ]
  have K12 : IN h _ a0 (ob 7 [.ref b0, .int 0, .int 0, .int 0, .ref b4, .int 0, .ref b6, .ref b7, .ref b8, .ref b9, .ref b10, .ref b11, .ref b12, .ref b13, .ref b14, .ref b15, .ref b16, .null, .int 0, .null, .int 0, .null, .null, .null]) [(b16, ia 8 (fun _ => 0)), (b15, ia 8 (fun _ => 0)), (b14, ia 8 (fun _ => 0)), (b13, ia 8 (fun _ => 0)), (b12, ia 8 (fun _ => 0)), (b11, ia 8 (fun _ => 0)), (b10, ia 8 (fun _ => 0)), (b9, ia 8 (fun _ => 0)), (b8, ia 8 (fun _ => 0)), (b7, ia 8 (fun _ => 0)), (b6, ia 8 (fun _ => 0)), (b4, ia 16 (fun _ => 0)), (b0, ia 6 (fun _ => 0))] := H12.put (ob 7 [.ref b0, .int 0, .int 0, .int 0, .ref b4, .int 0, .ref b6, .ref b7, .ref b8, .ref b9, .ref b10, .ref b11, .ref b12, .ref b13, .ref b14, .ref b15, .ref b16, .null, .int 0, .null, .int 0, .null, .null, .null])
  obtain ⟨g12, f12⟩ : ∃ x, x = hup h12 a0 (ob 7 [.ref b0, .int 0, .int 0, .int 0, .ref b4, .int 0, .ref b6, .ref b7, .ref b8, .ref b9, .ref b10, .ref b11, .ref b12, .ref b13, .ref b14, .ref b15, .ref b16, .null, .int 0, .null, .int 0, .null, .null, .null]) := ⟨_, rfl⟩
  rw [← f12] at K12
  show AW _ _ _ _ _ _ _ _ _ _ _ _ _ _ _ (hup h12 a0 (ob 7 [.ref b0, .int 0, .int 0, .int 0, .ref b4, .int 0, .ref b6, .ref b7, .ref b8, .ref b9, .ref b10, .ref b11, .ref b12, .ref b13, .ref b14, .ref b15, .ref b16, .null, .int 0, .null, .int 0, .null, .null, .null]))
  rw [← f12]
  refine aw_alo 0 (pcn := 109) rfl dX7_init_108 rfl rfl (rf_some _) ?_
  refine aw_bipush (v := nI 8) (pcn := 111) dX7_init_109 rfl (by decide) ?_
  refine aw_newi 8 (pcn := 113) (by decide) (by decide) (by decide) (by decide) dX7_init_111 rfl (by omega) (by omega) (fun b17 z17 => ?_)
  have H13 : IN h _ a0 (ob 7 [.ref b0, .int 0, .int 0, .int 0, .ref b4, .int 0, .ref b6, .ref b7, .ref b8, .ref b9, .ref b10, .ref b11, .ref b12, .ref b13, .ref b14, .ref b15, .ref b16, .null, .int 0, .null, .int 0, .null, .null, .null]) [(b17, ia 8 (fun _ => 0)), (b16, ia 8 (fun _ => 0)), (b15, ia 8 (fun _ => 0)), (b14, ia 8 (fun _ => 0)), (b13, ia 8 (fun _ => 0)), (b12, ia 8 (fun _ => 0)), (b11, ia 8 (fun _ => 0)), (b10, ia 8 (fun _ => 0)), (b9, ia 8 (fun _ => 0)), (b8, ia 8 (fun _ => 0)), (b7, ia 8 (fun _ => 0)), (b6, ia 8 (fun _ => 0)), (b4, ia 16 (fun _ => 0)), (b0, ia 6 (fun _ => 0))] := K12.made z17 (ia 8 (fun _ => 0))
  obtain ⟨h13, e13⟩ : ∃ x, x = hup g12 b17 (ia 8 (fun _ => 0)) := ⟨_, rfl⟩
  rw [← e13] at H13 ⊢
  refine aw_putF (pcn := 116) ff_X7_49 rfl dX7_init_113 rfl H13.self (by exact Nat.le_of_ble_eq_true rfl) (VF.a _ (some _)) ?_
  dsimp only [List.set_cons_zero, List.set_cons_succ]
  have K13 : IN h _ a0 (ob 7 [.ref b0, .int 0, .int 0, .int 0, .ref b4, .int 0, .ref b6, .ref b7, .ref b8, .ref b9, .ref b10, .ref b11, .ref b12, .ref b13, .ref b14, .ref b15, .ref b16, .ref b17, .int 0, .null, .int 0, .null, .null, .null]) [(b17, ia 8 (fun _ => 0)), (b16, ia 8 (fun _ => 0)), (b15, ia 8 (fun _ => 0)), (b14, ia 8 (fun _ => 0)), (b13, ia 8 (fun _ => 0)), (b12, ia 8 (fun _ => 0)), (b11, ia 8 (fun _ => 0)), (b10, ia 8 (fun _ => 0)), (b9, ia 8 (fun _ => 0)), (b8, ia 8 (fun _ => 0)), (b7, ia 8 (fun _ => 0)), (b6, ia 8 (fun _ => 0)), (b4, ia 16 (fun _ => 0)), (b0, ia 6 (fun _ => 0))] := H13.put (ob 7 [.ref b0, .int 0, .int 0, .int 0, .ref b4, .int 0, .ref b6, .ref b7, .ref b8, .ref b9, .ref b10, .ref b11, .ref b12, .ref b13, .ref b14, .ref b15, .ref b16, .ref b17, .int 0, .null, .int 0, .null, .null, .null])
  obtain ⟨g13, f13⟩ : ∃ x, x = hup h13 a0 (ob 7 [.ref b0, .int 0, .int 0, .int 0, .ref b4, .int 0, .ref b6, .ref b7, .ref b8, .ref b9, .ref b10, .ref b11, .ref b12, .ref b13, .ref b14, .ref b15, .ref b16, .ref b17, .int 0, .null, .int 0, .null, .null, .null]) := ⟨_, rfl⟩
  rw [← f13] at K13
  show AW _ _ _ _ _ _ _ _ _ _ _ _ _ _ _ (hup h13 a0 (ob 7 [.ref b0, .int 0, .int 0, .int 0, .ref b4, .int 0, .ref b6, .ref b7, .ref b8, .ref b9, .ref b10, .ref b11, .ref b12, .ref b13, .ref b14, .ref b15, .ref b16, .ref b17, .int 0, .null, .int 0, .null, .null, .null]))
  rw [← f13]
  refine aw_alo 0 (pcn := 117) rfl dX7_init_116 rfl rfl (rf_some _) ?_
  refine aw_sipush (v := nI 2240) (pcn := 120) dX7_init_117 rfl (by decide) ?_
  refine aw_newi 2240 (pcn := 122) (by decide) (by decide) (by decide) (by decide) dX7_init_120 rfl (by omega) (by omega) (fun b19 z19 => ?_)
  have H14 : IN h _ a0 (ob 7 [.ref b0, .int 0, .int 0, .int 0, .ref b4, .int 0, .ref b6, .ref b7, .ref b8, .ref b9, .ref b10, .ref b11, .ref b12, .ref b13, .ref b14, .ref b15, .ref b16, .ref b17, .int 0, .null, .int 0, .null, .null, .null]) [(b19, ia 2240 (fun _ => 0)), (b17, ia 8 (fun _ => 0)), (b16, ia 8 (fun _ => 0)), (b15, ia 8 (fun _ => 0)), (b14, ia 8 (fun _ => 0)), (b13, ia 8 (fun _ => 0)), (b12, ia 8 (fun _ => 0)), (b11, ia 8 (fun _ => 0)), (b10, ia 8 (fun _ => 0)), (b9, ia 8 (fun _ => 0)), (b8, ia 8 (fun _ => 0)), (b7, ia 8 (fun _ => 0)), (b6, ia 8 (fun _ => 0)), (b4, ia 16 (fun _ => 0)), (b0, ia 6 (fun _ => 0))] := K13.made z19 (ia 2240 (fun _ => 0))
  obtain ⟨h14, e14⟩ : ∃ x, x = hup g13 b19 (ia 2240 (fun _ => 0)) := ⟨_, rfl⟩
  rw [← e14] at H14 ⊢
  refine aw_putF (pcn := 125) ff_X7_52 rfl dX7_init_122 rfl H14.self (by exact Nat.le_of_ble_eq_true rfl) (VF.a _ (some _)) ?_
  dsimp only [List.set_cons_zero, List.set_cons_succ]
  have K14 : IN h _ a0 (ob 7 [.ref b0, .int 0, .int 0, .int 0, .ref b4, .int 0, .ref b6, .ref b7, .ref b8, .ref b9, .ref b10, .ref b11, .ref b12, .ref b13, .ref b14, .ref b15, .ref b16, .ref b17, .int 0, .ref b19, .int 0, .null, .null, .null]) [(b19, ia 2240 (fun _ => 0)), (b17, ia 8 (fun _ => 0)), (b16, ia 8 (fun _ => 0)), (b15, ia 8 (fun _ => 0)), (b14, ia 8 (fun _ => 0)), (b13, ia 8 (fun _ => 0)), (b12, ia 8 (fun _ => 0)), (b11, ia 8 (fun _ => 0)), (b10, ia 8 (fun _ => 0)), (b9, ia 8 (fun _ => 0)), (b8, ia 8 (fun _ => 0)), (b7, ia 8 (fun _ => 0)), (b6, ia 8 (fun _ => 0)), (b4, ia 16 (fun _ => 0)), (b0, ia 6 (fun _ => 0))] := H14.put (ob 7 [.ref b0, .int 0, .int 0, .int 0, .ref b4, .int 0, .ref b6, .ref b7, .ref b8, .ref b9, .ref b10, .ref b11, .ref b12, .ref b13, .ref b14, .ref b15, .ref b16, .ref b17, .int 0, .ref b19, .int 0, .null, .null, .null])
  obtain ⟨g14, f14⟩ : ∃ x, x = hup h14 a0 (ob 7 [.ref b0, .int 0, .int 0, .int 0, .ref b4, .int 0, .ref b6, .ref b7, .ref b8, .ref b9, .ref b10, .ref b11, .ref b12, .ref b13, .ref b14, .ref b15, .ref b16, .ref b17, .int 0, .ref b19, .int 0, .null, .null, .null]) := ⟨_, rfl⟩
  rw [← f14] at K14
  show AW _ _ _ _ _ _ _ _ _ _ _ _ _ _ _ (hup h14 a0 (ob 7 [.ref b0, .int 0, .int 0, .int 0, .ref b4, .int 0, .ref b6, .ref b7, .ref b8, .ref b9, .ref b10, .ref b11, .ref b12, .ref b13, .ref b14, .ref b15, .ref b16, .ref b17, .int 0, .ref b19, .int 0, .null, .null, .null]))
  rw [← f14]
  refine aw_alo 0 (pcn := 126) rfl dX7_init_125 rfl rfl (rf_some _) ?_
  refine aw_iconst (v := nI 4) (pcn := 127) dX7_init_126 rfl (by decide) ?_
  refine aw_newi 4 (pcn := 129) (by decide) (by decide) (by decide) (by decide) dX7_init_127 rfl (by omega) (by omega) (fun b21 z21 => ?_)
  have H15 : IN h _ a0 (ob 7 [.ref b0, .int 0, .int 0, .int 0, .ref b4, .int 0, .ref b6, .ref b7, .ref b8, .ref b9, .ref b10, .ref b11, .ref b12, .ref b13, .ref b14, .ref b15, .ref b16, .ref b17, .int 0, .ref b19, .int 0, .null, .null, .null]) [(b21, ia 4 (fun _ => 0)), (b19, ia 2240 (fun _ => 0)), (b17, ia 8 (fun _ => 0)), (b16, ia 8 (fun _ => 0)), (b15, ia 8 (fun _ => 0)), (b14, ia 8 (fun _ => 0)), (b13, ia 8 (fun _ => 0)), (b12, ia 8 (fun _ => 0)), (b11, ia 8 (fun _ => 0)), (b10, ia 8 (fun _ => 0)), (b9, ia 8 (fun _ => 0)), (b8, ia 8 (fun _ => 0)), (b7, ia 8 (fun _ => 0)), (b6, ia 8 (fun _ => 0)), (b4, ia 16 (fun _ => 0)), (b0, ia 6 (fun _ => 0))] := K14.made z21 (ia 4 (fun _ => 0))
  obtain ⟨h15, e15⟩ : ∃ x, x = hup g14 b21 (ia 4 (fun _ => 0)) := ⟨_, rfl⟩
  rw [← e15] at H15 ⊢
  refine aw_putF (pcn := 132) ff_X7_55 rfl dX7_init_129 rfl H15.self (by exact Nat.le_of_ble_eq_true rfl) (VF.a _ (some _)) ?_
  dsimp only [List.set_cons_zero, List.set_cons_succ]
  have K15 : IN h _ a0 (ob 7 [.ref b0, .int 0, .int 0, .int 0, .ref b4, .int 0, .ref b6, .ref b7, .ref b8, .ref b9, .ref b10, .ref b11, .ref b12, .ref b13, .ref b14, .ref b15, .ref b16, .ref b17, .int 0, .ref b19, .int 0, .ref b21, .null, .null]) [(b21, ia 4 (fun _ => 0)), (b19, ia 2240 (fun _ => 0)), (b17, ia 8 (fun _ => 0)), (b16, ia 8 (fun _ => 0)), (b15, ia 8 (fun _ => 0)), (b14, ia 8 (fun _ => 0)), (b13, ia 8 (fun _ => 0)), (b12, ia 8 (fun _ => 0)), (b11, ia 8 (fun _ => 0)), (b10, ia 8 (fun _ => 0)), (b9, ia 8 (fun _ => 0)), (b8, ia 8 (fun _ => 0)), (b7, ia 8 (fun _ => 0)), (b6, ia 8 (fun _ => 0)), (b4, ia 16 (fun _ => 0)), (b0, ia 6 (fun _ => 0))] := H15.put (ob 7 [.ref b0, .int 0, .int 0, .int 0, .ref b4, .int 0, .ref b6, .ref b7, .ref b8, .ref b9, .ref b10, .ref b11, .ref b12, .ref b13, .ref b14, .ref b15, .ref b16, .ref b17, .int 0, .ref b19, .int 0, .ref b21, .null, .null])
  obtain ⟨g15, f15⟩ : ∃ x, x = hup h15 a0 (ob 7 [.ref b0, .int 0, .int 0, .int 0, .ref b4, .int 0, .ref b6, .ref b7, .ref b8, .ref b9, .ref b10, .ref b11, .ref b12, .ref b13, .ref b14, .ref b15, .ref b16, .ref b17, .int 0, .ref b19, .int 0, .ref b21, .null, .null]) := ⟨_, rfl⟩
  rw [← f15] at K15
  show AW _ _ _ _ _ _ _ _ _ _ _ _ _ _ _ (hup h15 a0 (ob 7 [.ref b0, .int 0, .int 0, .int 0, .ref b4, .int 0, .ref b6, .ref b7, .ref b8, .ref b9, .ref b10, .ref b11, .ref b12, .ref b13, .ref b14, .ref b15, .ref b16, .ref b17, .int 0, .ref b19, .int 0, .ref b21, .null, .null]))
  rw [← f15]
  refine aw_alo 0 (pcn := 133) rfl dX7_init_132 rfl rfl (rf_some _) ?_
  refine aw_iconst (v := nI 4) (pcn := 134) dX7_init_133 rfl (by decide) ?_
  refine aw_newi 4 (pcn := 136) (by decide) (by decide) (by decide) (by decide) dX7_init_134 rfl (by omega) (by omega) (fun b22 z22 => ?_)
  have H16 : IN h _ a0 (ob 7 [.ref b0, .int 0, .int 0, .int 0, .ref b4, .int 0, .ref b6, .ref b7, .ref b8, .ref b9, .ref b10, .ref b11, .ref b12, .ref b13, .ref b14, .ref b15, .ref b16, .ref b17, .int 0, .ref b19, .int 0, .ref b21, .null, .null]) [(b22, ia 4 (fun _ => 0)), (b21, ia 4 (fun _ => 0)), (b19, ia 2240 (fun _ => 0)), (b17, ia 8 (fun _ => 0)), (b16, ia 8 (fun _ => 0)), (b15, ia 8 (fun _ => 0)), (b14, ia 8 (fun _ => 0)), (b13, ia 8 (fun _ => 0)), (b12, ia 8 (fun _ => 0)), (b11, ia 8 (fun _ => 0)), (b10, ia 8 (fun _ => 0)), (b9, ia 8 (fun _ => 0)), (b8, ia 8 (fun _ => 0)), (b7, ia 8 (fun _ => 0)), (b6, ia 8 (fun _ => 0)), (b4, ia 16 (fun _ => 0)), (b0, ia 6 (fun _ => 0))] := K15.made z22 (ia 4 (fun _ => 0))
  obtain ⟨h16, e16⟩ : ∃ x, x = hup g15 b22 (ia 4 (fun _ => 0)) := ⟨_, rfl⟩
  rw [← e16] at H16 ⊢
  refine aw_putF (pcn := 139) ff_X7_58 rfl dX7_init_136 rfl H16.self (by exact Nat.le_of_ble_eq_true rfl) (VF.a _ (some _)) ?_
  dsimp only [List.set_cons_zero, List.set_cons_succ]
  have K16 : IN h _ a0 (ob 7 [.ref b0, .int 0, .int 0, .int 0, .ref b4, .int 0, .ref b6, .ref b7, .ref b8, .ref b9, .ref b10, .ref b11, .ref b12, .ref b13, .ref b14, .ref b15, .ref b16, .ref b17, .int 0, .ref b19, .int 0, .ref b21, .ref b22, .null]) [(b22, ia 4 (fun _ => 0)), (b21, ia 4 (fun _ => 0)), (b19, ia 2240 (fun _ => 0)), (b17, ia 8 (fun _ => 0)), (b16, ia 8 (fun _ => 0)), (b15, ia 8 (fun _ => 0)), (b14, ia 8 (fun _ => 0)), (b13, ia 8 (fun _ => 0)), (b12, ia 8 (fun _ => 0)), (b11, ia 8 (fun _ => 0)), (b10, ia 8 (fun _ => 0)), (b9, ia 8 (fun _ => 0)), (b8, ia 8 (fun _ => 0)), (b7, ia 8 (fun _ => 0)), (b6, ia 8 (fun _ => 0)), (b4, ia 16 (fun _ => 0)), (b0, ia 6 (fun _ => 0))] := H16.put (ob 7 [.ref b0, .int 0, .int 0, .int 0, .ref b4, .int 0, .ref b6, .ref b7, .ref b8, .ref b9, .ref b10, .ref b11, .ref b12, .ref b13, .ref b14, .ref b15, .ref b16, .ref b17, .int 0, .ref b19, .int 0, .ref b21, .ref b22, .null])
  obtain ⟨g16, f16⟩ : ∃ x, x = hup h16 a0 (ob 7 [.ref b0, .int 0, .int 0, .int 0, .ref b4, .int 0, .ref b6, .ref b7, .ref b8, .ref b9, .ref b10, .ref b11, .ref b12, .ref b13, .ref b14, .ref b15, .ref b16, .ref b17, .int 0, .ref b19, .int 0, .ref b21, .ref b22, .null]) := ⟨_, rfl⟩
  rw [← f16] at K16
  show AW _ _ _ _ _ _ _ _ _ _ _ _ _ _ _ (hup h16 a0 (ob 7 [.ref b0, .int 0, .int 0, .int 0, .ref b4, .int 0, .ref b6, .ref b7, .ref b8, .ref b9, .ref b10, .ref b11, .ref b12, .ref b13, .ref b14, .ref b15, .ref b16, .ref b17, .int 0, .ref b19, .int 0, .ref b21, .ref b22, .null]))
  rw [← f16]
  refine aw_alo 0 (pcn := 140) rfl dX7_init_139 rfl rfl (rf_some _) ?_
  refine aw_iconst (v := nI 4) (pcn := 141) dX7_init_140 rfl (by decide) ?_
  refine aw_newi 4 (pcn := 143) (by decide) (by decide) (by decide) (by decide) dX7_init_141 rfl (by omega) (by omega) (fun b23 z23 => ?_)
  have H17 : IN h _ a0 (ob 7 [.ref b0, .int 0, .int 0, .int 0, .ref b4, .int 0, .ref b6, .ref b7, .ref b8, .ref b9, .ref b10, .ref b11, .ref b12, .ref b13, .ref b14, .ref b15, .ref b16, .ref b17, .int 0, .ref b19, .int 0, .ref b21, .ref b22, .null]) [(b23, ia 4 (fun _ => 0)), (b22, ia 4 (fun _ => 0)), (b21, ia 4 (fun _ => 0)), (b19, ia 2240 (fun _ => 0)), (b17, ia 8 (fun _ => 0)), (b16, ia 8 (fun _ => 0)), (b15, ia 8 (fun _ => 0)), (b14, ia 8 (fun _ => 0)), (b13, ia 8 (fun _ => 0)), (b12, ia 8 (fun _ => 0)), (b11, ia 8 (fun _ => 0)), (b10, ia 8 (fun _ => 0)), (b9, ia 8 (fun _ => 0)), (b8, ia 8 (fun _ => 0)), (b7, ia 8 (fun _ => 0)), (b6, ia 8 (fun _ => 0)), (b4, ia 16 (fun _ => 0)), (b0, ia 6 (fun _ => 0))] := K16.made z23 (ia 4 (fun _ => 0))
  obtain ⟨h17, e17⟩ : ∃ x, x = hup g16 b23 (ia 4 (fun _ => 0)) := ⟨_, rfl⟩
  rw [← e17] at H17 ⊢
  refine aw_putF (pcn := 146) ff_X7_61 rfl dX7_init_143 rfl H17.self (by exact Nat.le_of_ble_eq_true rfl) (VF.a _ (some _)) ?_
  dsimp only [List.set_cons_zero, List.set_cons_succ]
  have K17 : IN h _ a0 (ob 7 [.ref b0, .int 0, .int 0, .int 0, .ref b4, .int 0, .ref b6, .ref b7, .ref b8, .ref b9, .ref b10, .ref b11, .ref b12, .ref b13, .ref b14, .ref b15, .ref b16, .ref b17, .int 0, .ref b19, .int 0, .ref b21, .ref b22, .ref b23]) [(b23, ia 4 (fun _ => 0)), (b22, ia 4 (fun _ => 0)), (b21, ia 4 (fun _ => 0)), (b19, ia 2240 (fun _ => 0)), (b17, ia 8 (fun _ => 0)), (b16, ia 8 (fun _ => 0)), (b15, ia 8 (fun _ => 0)), (b14, ia 8 (fun _ => 0)), (b13, ia 8 (fun _ => 0)), (b12, ia 8 (fun _ => 0)), (b11, ia 8 (fun _ => 0)), (b10, ia 8 (fun _ => 0)), (b9, ia 8 (fun _ => 0)), (b8, ia 8 (fun _ => 0)), (b7, ia 8 (fun _ => 0)), (b6, ia 8 (fun _ => 0)), (b4, ia 16 (fun _ => 0)), (b0, ia 6 (fun _ => 0))] := H17.put (ob 7 [.ref b0, .int 0, .int 0, .int 0, .ref b4, .int 0, .ref b6, .ref b7, .ref b8, .ref b9, .ref b10, .ref b11, .ref b12, .ref b13, .ref b14, .ref b15, .ref b16, .ref b17, .int 0, .ref b19, .int 0, .ref b21, .ref b22, .ref b23])
  obtain ⟨g17, f17⟩ : ∃ x, x = hup h17 a0 (ob 7 [.ref b0, .int 0, .int 0, .int 0, .ref b4, .int 0, .ref b6, .ref b7, .ref b8, .ref b9, .ref b10, .ref b11, .ref b12, .ref b13, .ref b14, .ref b15, .ref b16, .ref b17, .int 0, .ref b19, .int 0, .ref b21, .ref b22, .ref b23]) := ⟨_, rfl⟩
  rw [← f17] at K17
  show AW _ _ _ _ _ _ _ _ _ _ _ _ _ _ _ (hup h17 a0 (ob 7 [.ref b0, .int 0, .int 0, .int 0, .ref b4, .int 0, .ref b6, .ref b7, .ref b8, .ref b9, .ref b10, .ref b11, .ref b12, .ref b13, .ref b14, .ref b15, .ref b16, .ref b17, .int 0, .ref b19, .int 0, .ref b21, .ref b22, .ref b23]))
  rw [← f17]
  refine aw_iconst (v := nI 0) (pcn := 147) dX7_init_146 rfl (by decide) ?_
  refine aw_ist 1 (pcn := 148) rfl dX7_init_147 rfl (by decide) ?_
  dsimp only [List.set_cons_zero, List.set_cons_succ]
  refine aw_ilo 1 (pcn := 149) rfl dX7_init_148 rfl rfl ?_
  refine aw_bipush (v := nI 6) (pcn := 151) dX7_init_149 rfl (by decide) ?_
  refine aw_icmp_ge (t := 169) (pcn := 154) dX7_init_151 rfl (by decide) (fun q1 => absurd q1 (by decide)) (fun q1 => ?_)
  refine aw_alo 0 (pcn := 155) rfl dX7_init_154 rfl rfl (rf_some _) ?_
  refine aw_getf (pcn := 158) fl_X7_7 dX7_init_155 rfl K17.self rfl ?_
  refine aw_ilo 1 (pcn := 159) rfl dX7_init_158 rfl rfl ?_
  refine aw_sipush (v := nI 10000) (pcn := 162) dX7_init_159 rfl (by decide) ?_
  refine aw_iastN (pcn := 163) (by decide) dX7_init_162 rfl (K17.new (b0, ia 6 (fun _ => 0)) (by simp)).2.1 (show 0 < 6 by decide) ?_
  have W0 := IN.wr (L := [(b23, ia 4 (fun _ => 0)), (b22, ia 4 (fun _ => 0)), (b21, ia 4 (fun _ => 0)), (b19, ia 2240 (fun _ => 0)), (b17, ia 8 (fun _ => 0)), (b16, ia 8 (fun _ => 0)), (b15, ia 8 (fun _ => 0)), (b14, ia 8 (fun _ => 0)), (b13, ia 8 (fun _ => 0)), (b12, ia 8 (fun _ => 0)), (b11, ia 8 (fun _ => 0)), (b10, ia 8 (fun _ => 0)), (b9, ia 8 (fun _ => 0)), (b8, ia 8 (fun _ => 0)), (b7, ia 8 (fun _ => 0)), (b6, ia 8 (fun _ => 0)), (b4, ia 16 (fun _ => 0))]) (M := []) K17 (ia 6 (upd (fun _ => 0) 0 (nI 10000)))
  obtain ⟨w0, ew0⟩ : ∃ x, x = hup g17 b0 (ia 6 (upd (fun _ => 0) 0 (nI 10000))) := ⟨_, rfl⟩
  rw [← ew0] at W0 ⊢
  refine aw_iinc (v := nI 1) (pcn := 166) dX7_init_163 rfl (by decide) rfl (by decide) ?_
  dsimp only [List.set_cons_zero, List.set_cons_succ]
  refine aw_goto (t := 148) dX7_init_166 (by decide) ?_
  refine aw_ilo 1 (pcn := 149) rfl dX7_init_148 rfl rfl ?_
  refine aw_bipush (v := nI 6) (pcn := 151) dX7_init_149 rfl (by decide) ?_
  refine aw_icmp_ge (t := 169) (pcn := 154) dX7_init_151 rfl (by decide) (fun q2 => absurd q2 (by decide)) (fun q2 => ?_)
  refine aw_alo 0 (pcn := 155) rfl dX7_init_154 rfl rfl (rf_some _) ?_
  refine aw_getf (pcn := 158) fl_X7_7 dX7_init_155 rfl W0.self rfl ?_
  refine aw_ilo 1 (pcn := 159) rfl dX7_init_158 rfl rfl ?_
  refine aw_sipush (v := nI 10000) (pcn := 162) dX7_init_159 rfl (by decide) ?_
  refine aw_iastN (pcn := 163) (by decide) dX7_init_162 rfl (W0.new (b0, ia 6 (upd (fun _ => 0) 0 (nI 10000))) (by simp)).2.1 (show 1 < 6 by decide) ?_
  have W1 := IN.wr (L := [(b23, ia 4 (fun _ => 0)), (b22, ia 4 (fun _ => 0)), (b21, ia 4 (fun _ => 0)), (b19, ia 2240 (fun _ => 0)), (b17, ia 8 (fun _ => 0)), (b16, ia 8 (fun _ => 0)), (b15, ia 8 (fun _ => 0)), (b14, ia 8 (fun _ => 0)), (b13, ia 8 (fun _ => 0)), (b12, ia 8 (fun _ => 0)), (b11, ia 8 (fun _ => 0)), (b10, ia 8 (fun _ => 0)), (b9, ia 8 (fun _ => 0)), (b8, ia 8 (fun _ => 0)), (b7, ia 8 (fun _ => 0)), (b6, ia 8 (fun _ => 0)), (b4, ia 16 (fun _ => 0))]) (M := []) W0 (ia 6 (upd (upd (fun _ => 0) 0 (nI 10000)) 1 (nI 10000)))
  obtain ⟨w1, ew1⟩ : ∃ x, x = hup w0 b0 (ia 6 (upd (upd (fun _ => 0) 0 (nI 10000)) 1 (nI 10000))) := ⟨_, rfl⟩
  rw [← ew1] at W1 ⊢
  refine aw_iinc (v := nI 2) (pcn := 166) dX7_init_163 rfl (by decide) rfl (by decide) ?_
  dsimp only [List.set_cons_zero, List.set_cons_succ]
  refine aw_goto (t := 148) dX7_init_166 (by decide) ?_
  refine aw_ilo 1 (pcn := 149) rfl dX7_init_148 rfl rfl ?_
  refine aw_bipush (v := nI 6) (pcn := 151) dX7_init_149 rfl (by decide) ?_
  refine aw_icmp_ge (t := 169) (pcn := 154) dX7_init_151 rfl (by decide) (fun q3 => absurd q3 (by decide)) (fun q3 => ?_)
  refine aw_alo 0 (pcn := 155) rfl dX7_init_154 rfl rfl (rf_some _) ?_
  refine aw_getf (pcn := 158) fl_X7_7 dX7_init_155 rfl W1.self rfl ?_
  refine aw_ilo 1 (pcn := 159) rfl dX7_init_158 rfl rfl ?_
  refine aw_sipush (v := nI 10000) (pcn := 162) dX7_init_159 rfl (by decide) ?_
  refine aw_iastN (pcn := 163) (by decide) dX7_init_162 rfl (W1.new (b0, ia 6 (upd (upd (fun _ => 0) 0 (nI 10000)) 1 (nI 10000))) (by simp)).2.1 (show 2 < 6 by decide) ?_
  have W2 := IN.wr (L := [(b23, ia 4 (fun _ => 0)), (b22, ia 4 (fun _ => 0)), (b21, ia 4 (fun _ => 0)), (b19, ia 2240 (fun _ => 0)), (b17, ia 8 (fun _ => 0)), (b16, ia 8 (fun _ => 0)), (b15, ia 8 (fun _ => 0)), (b14, ia 8 (fun _ => 0)), (b13, ia 8 (fun _ => 0)), (b12, ia 8 (fun _ => 0)), (b11, ia 8 (fun _ => 0)), (b10, ia 8 (fun _ => 0)), (b9, ia 8 (fun _ => 0)), (b8, ia 8 (fun _ => 0)), (b7, ia 8 (fun _ => 0)), (b6, ia 8 (fun _ => 0)), (b4, ia 16 (fun _ => 0))]) (M := []) W1 (ia 6 (upd (upd (upd (fun _ => 0) 0 (nI 10000)) 1 (nI 10000)) 2 (nI 10000)))
  obtain ⟨w2, ew2⟩ : ∃ x, x = hup w1 b0 (ia 6 (upd (upd (upd (fun _ => 0) 0 (nI 10000)) 1 (nI 10000)) 2 (nI 10000))) := ⟨_, rfl⟩
  rw [← ew2] at W2 ⊢
  refine aw_iinc (v := nI 3) (pcn := 166) dX7_init_163 rfl (by decide) rfl (by decide) ?_
  dsimp only [List.set_cons_zero, List.set_cons_succ]
  refine aw_goto (t := 148) dX7_init_166 (by decide) ?_
  refine aw_ilo 1 (pcn := 149) rfl dX7_init_148 rfl rfl ?_
  refine aw_bipush (v := nI 6) (pcn := 151) dX7_init_149 rfl (by decide) ?_
  refine aw_icmp_ge (t := 169) (pcn := 154) dX7_init_151 rfl (by decide) (fun q4 => absurd q4 (by decide)) (fun q4 => ?_)
  refine aw_alo 0 (pcn := 155) rfl dX7_init_154 rfl rfl (rf_some _) ?_
  refine aw_getf (pcn := 158) fl_X7_7 dX7_init_155 rfl W2.self rfl ?_
  refine aw_ilo 1 (pcn := 159) rfl dX7_init_158 rfl rfl ?_
  refine aw_sipush (v := nI 10000) (pcn := 162) dX7_init_159 rfl (by decide) ?_
  refine aw_iastN (pcn := 163) (by decide) dX7_init_162 rfl (W2.new (b0, ia 6 (upd (upd (upd (fun _ => 0) 0 (nI 10000)) 1 (nI 10000)) 2 (nI 10000))) (by simp)).2.1 (show 3 < 6 by decide) ?_
  have W3 := IN.wr (L := [(b23, ia 4 (fun _ => 0)), (b22, ia 4 (fun _ => 0)), (b21, ia 4 (fun _ => 0)), (b19, ia 2240 (fun _ => 0)), (b17, ia 8 (fun _ => 0)), (b16, ia 8 (fun _ => 0)), (b15, ia 8 (fun _ => 0)), (b14, ia 8 (fun _ => 0)), (b13, ia 8 (fun _ => 0)), (b12, ia 8 (fun _ => 0)), (b11, ia 8 (fun _ => 0)), (b10, ia 8 (fun _ => 0)), (b9, ia 8 (fun _ => 0)), (b8, ia 8 (fun _ => 0)), (b7, ia 8 (fun _ => 0)), (b6, ia 8 (fun _ => 0)), (b4, ia 16 (fun _ => 0))]) (M := []) W2 (ia 6 (upd (upd (upd (upd (fun _ => 0) 0 (nI 10000)) 1 (nI 10000)) 2 (nI 10000)) 3 (nI 10000)))
  obtain ⟨w3, ew3⟩ : ∃ x, x = hup w2 b0 (ia 6 (upd (upd (upd (upd (fun _ => 0) 0 (nI 10000)) 1 (nI 10000)) 2 (nI 10000)) 3 (nI 10000))) := ⟨_, rfl⟩
  rw [← ew3] at W3 ⊢
  refine aw_iinc (v := nI 4) (pcn := 166) dX7_init_163 rfl (by decide) rfl (by decide) ?_
  dsimp only [List.set_cons_zero, List.set_cons_succ]
  refine aw_goto (t := 148) dX7_init_166 (by decide) ?_
  refine aw_ilo 1 (pcn := 149) rfl dX7_init_148 rfl rfl ?_
  refine aw_bipush (v := nI 6) (pcn := 151) dX7_init_149 rfl (by decide) ?_
  refine aw_icmp_ge (t := 169) (pcn := 154) dX7_init_151 rfl (by decide) (fun q5 => absurd q5 (by decide)) (fun q5 => ?_)
  refine aw_alo 0 (pcn := 155) rfl dX7_init_154 rfl rfl (rf_some _) ?_
  refine aw_getf (pcn := 158) fl_X7_7 dX7_init_155 rfl W3.self rfl ?_
  refine aw_ilo 1 (pcn := 159) rfl dX7_init_158 rfl rfl ?_
  refine aw_sipush (v := nI 10000) (pcn := 162) dX7_init_159 rfl (by decide) ?_
  refine aw_iastN (pcn := 163) (by decide) dX7_init_162 rfl (W3.new (b0, ia 6 (upd (upd (upd (upd (fun _ => 0) 0 (nI 10000)) 1 (nI 10000)) 2 (nI 10000)) 3 (nI 10000))) (by simp)).2.1 (show 4 < 6 by decide) ?_
  have W4 := IN.wr (L := [(b23, ia 4 (fun _ => 0)), (b22, ia 4 (fun _ => 0)), (b21, ia 4 (fun _ => 0)), (b19, ia 2240 (fun _ => 0)), (b17, ia 8 (fun _ => 0)), (b16, ia 8 (fun _ => 0)), (b15, ia 8 (fun _ => 0)), (b14, ia 8 (fun _ => 0)), (b13, ia 8 (fun _ => 0)), (b12, ia 8 (fun _ => 0)), (b11, ia 8 (fun _ => 0)), (b10, ia 8 (fun _ => 0)), (b9, ia 8 (fun _ => 0)), (b8, ia 8 (fun _ => 0)), (b7, ia 8 (fun _ => 0)), (b6, ia 8 (fun _ => 0)), (b4, ia 16 (fun _ => 0))]) (M := []) W3 (ia 6 (upd (upd (upd (upd (upd (fun _ => 0) 0 (nI 10000)) 1 (nI 10000)) 2 (nI 10000)) 3 (nI 10000)) 4 (nI 10000)))
  obtain ⟨w4, ew4⟩ : ∃ x, x = hup w3 b0 (ia 6 (upd (upd (upd (upd (upd (fun _ => 0) 0 (nI 10000)) 1 (nI 10000)) 2 (nI 10000)) 3 (nI 10000)) 4 (nI 10000))) := ⟨_, rfl⟩
  rw [← ew4] at W4 ⊢
  refine aw_iinc (v := nI 5) (pcn := 166) dX7_init_163 rfl (by decide) rfl (by decide) ?_
  dsimp only [List.set_cons_zero, List.set_cons_succ]
  refine aw_goto (t := 148) dX7_init_166 (by decide) ?_
  refine aw_ilo 1 (pcn := 149) rfl dX7_init_148 rfl rfl ?_
  refine aw_bipush (v := nI 6) (pcn := 151) dX7_init_149 rfl (by decide) ?_
  refine aw_icmp_ge (t := 169) (pcn := 154) dX7_init_151 rfl (by decide) (fun q6 => absurd q6 (by decide)) (fun q6 => ?_)
  refine aw_alo 0 (pcn := 155) rfl dX7_init_154 rfl rfl (rf_some _) ?_
  refine aw_getf (pcn := 158) fl_X7_7 dX7_init_155 rfl W4.self rfl ?_
  refine aw_ilo 1 (pcn := 159) rfl dX7_init_158 rfl rfl ?_
  refine aw_sipush (v := nI 10000) (pcn := 162) dX7_init_159 rfl (by decide) ?_
  refine aw_iastN (pcn := 163) (by decide) dX7_init_162 rfl (W4.new (b0, ia 6 (upd (upd (upd (upd (upd (fun _ => 0) 0 (nI 10000)) 1 (nI 10000)) 2 (nI 10000)) 3 (nI 10000)) 4 (nI 10000))) (by simp)).2.1 (show 5 < 6 by decide) ?_
  have W5 := IN.wr (L := [(b23, ia 4 (fun _ => 0)), (b22, ia 4 (fun _ => 0)), (b21, ia 4 (fun _ => 0)), (b19, ia 2240 (fun _ => 0)), (b17, ia 8 (fun _ => 0)), (b16, ia 8 (fun _ => 0)), (b15, ia 8 (fun _ => 0)), (b14, ia 8 (fun _ => 0)), (b13, ia 8 (fun _ => 0)), (b12, ia 8 (fun _ => 0)), (b11, ia 8 (fun _ => 0)), (b10, ia 8 (fun _ => 0)), (b9, ia 8 (fun _ => 0)), (b8, ia 8 (fun _ => 0)), (b7, ia 8 (fun _ => 0)), (b6, ia 8 (fun _ => 0)), (b4, ia 16 (fun _ => 0))]) (M := []) W4 (ia 6 (upd (upd (upd (upd (upd (upd (fun _ => 0) 0 (nI 10000)) 1 (nI 10000)) 2 (nI 10000)) 3 (nI 10000)) 4 (nI 10000)) 5 (nI 10000)))
  obtain ⟨w5, ew5⟩ : ∃ x, x = hup w4 b0 (ia 6 (upd (upd (upd (upd (upd (upd (fun _ => 0) 0 (nI 10000)) 1 (nI 10000)) 2 (nI 10000)) 3 (nI 10000)) 4 (nI 10000)) 5 (nI 10000))) := ⟨_, rfl⟩
  rw [← ew5] at W5 ⊢
  refine aw_iinc (v := nI 6) (pcn := 166) dX7_init_163 rfl (by decide) rfl (by decide) ?_
  dsimp only [List.set_cons_zero, List.set_cons_succ]
  refine aw_goto (t := 148) dX7_init_166 (by decide) ?_
  refine aw_ilo 1 (pcn := 149) rfl dX7_init_148 rfl rfl ?_
  refine aw_bipush (v := nI 6) (pcn := 151) dX7_init_149 rfl (by decide) ?_
  refine aw_icmp_ge (t := 169) (pcn := 154) dX7_init_151 rfl (by decide) (fun q7 => ?_) (fun q7 => absurd (by decide) q7)
  exact aw_ret dX7_init_169 rfl ⟨rfl, b0, b4, b6, b7, b8, b9, b10, b11, b12, b13, b14, b15, b16, b17, b19, b21, b22, b23, W5⟩
