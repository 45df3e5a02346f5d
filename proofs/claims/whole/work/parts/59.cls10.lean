/-! the class: a new state as the newest, locks put and taken, a hop paid, all agreed -/
theorem Iv.sok {i : Nat} {T : TB} {C n Z hN : Nat} (H : Iv i T C n Z hN) : ∀ d, d < ix (T 5 0) → sOK n (T 25 d) ∧ sOK n (T 10 d) := fun d hd => by
  have h8 := H.C8
  rw [H.c5, ix_nI (by omega)] at hd
  have hC := H.ch hd
  refine ⟨?_, ?_⟩
  · by_cases e : T 9 d = nI 3
    · exact Or.inl (hC.2.2.2.2.2.2.1 e)
    · obtain ⟨h1, s, h2, h3⟩ := hC.2.2.2.2.2.2.2.1 e
      exact Or.inr ⟨s, h2, h1.trans h3⟩
  · by_cases e : T 9 d = nI 1
    · exact Or.inl (hC.2.2.2.1 e)
    · obtain ⟨b, h1, h2, _⟩ := hC.2.2.2.2.1 e
      exact Or.inr ⟨b, h1, h2⟩
set_option maxHeartbeats 1600000 in
set_option maxRecDepth 20000 in
theorem c_newNewest {X : XG} {l : Launch} {Γ : NM} {ow : Nat → Nat × Nat} {h : Hp} {T Tr : TB} {nh : Nat} (hW : WD Γ ow h T Tr nh) {i C n Z hN : Nat} (hI : Iv i T C n Z hN) {c : Nat} (hcC : c < C) (hn64 : n < 64) (h9 : ¬ T 9 c = nI 3) : AM X l yX6_newStateAsNewest cX6_newStateAsNewest 4 (some (.object "StateChannels$State")) 4 6 26 [.ref (Γ 0 0), .ref (Γ 7 c)] h (qr fun r h' => ∃ Γ' ow', (∀ k i, vld T k i → Γ' k i = Γ k i) ∧ r = some (Γ' 8 n) ∧ WD Γ' ow' h' (copT T c n (ix (nwT T c n))) Tr nh ∧ Kp h h') := by
  refine AM.of (by decide +kernel) (by simp [Value.category]) (Nat.le_of_ble_eq_true rfl) ?_
  show AW X l cX6_newStateAsNewest RX6 "newStateAsNewest" (some (.object "StateChannels$State")) 4 4 none _ 6 26 0 [some (.ref (Γ 0 0)), some (.ref (Γ 7 c)), none, none] [] h
  have hK : Kp h h := Kp.rfl
  have h64 := hI.n64
  have h8 := hI.C8
  have h16 := hI.Z16
  have h4 := hI.h4
  have hc8 : c < 8 := by omega
  have vc := hI.vc hcC
  have hnw := hI.nw hcC h9
  refine aw_alo 0 (pcn := 1) rfl dX6_newStateAsNewest_0 rfl rfl (rf_some _) ?_
  refine aw_alo 1 (pcn := 2) rfl dX6_newStateAsNewest_1 rfl rfl (rf_some _) ?_
  refine aw_Vr (pcn := 5) (c_newState hW hI.n18 hn64 hc8 vc hI.sok (hI.ch hcC).2.2.2.2.2.1) mf_X6_newState mv_X6_newState hW.sc rfl ml_X6_67 rfl (by decide) (by decide) (by decide) (by exact Nat.le_of_ble_eq_true rfl) rfl dX6_newStateAsNewest_2 rfl (fun r h2 hq => ?_)
  obtain ⟨Γ', ow', hG, rfl, hW2, hk⟩ := hq
  have hK := hK.trans hk
  rw [← hG 7 c (v7 vc), ← hG 0 0 (v0 (by decide))]
  obtain ⟨b0, b1, b33, b34, bz, bo, b18, b24, bj⟩ := blkT_v T c n
  have j5 : blkT T c n 5 0 = T 5 0 := bj 5 0 (by decide) (by omega) (by omega)
  have vc2 : c < ix (blkT T c n 5 0) := by rw [j5]; exact vc
  have vs2 : n < ix (blkT T c n 18 0) := by rw [b18, ix_nI (by omega)]; omega
  have vb2 : ix (nwT T c n) < ix (blkT T c n 18 0) := by rw [b18, ix_nI (by omega)]; omega
  have h25b : blkT T c n 25 c = nI (ix (nwT T c n)) := by rw [bj 25 c (by decide) (by omega) (by omega), ((hI.ch hcC).2.2.2.2.2.2.2.1 h9).1]; exact hnw.1
  refine aw_ast 2 (pcn := 6) rfl dX6_newStateAsNewest_5 rfl (by decide) (rf_some _) ?_
  dsimp only [List.set_cons_zero, List.set_cons_succ]
  refine aw_alo 1 (pcn := 7) rfl dX6_newStateAsNewest_6 rfl rfl (rf_some _) ?_
  obtain ⟨g, hc, hg⟩ := hW2.ch (c := c) vc2
  refine aw_getf (pcn := 10) fl_X6_86 dX6_newStateAsNewest_7 rfl hc rfl ?_
  rw [h25b, sref_nI (by omega)]
  refine aw_ast 3 (pcn := 11) rfl dX6_newStateAsNewest_10 rfl (by decide) (rf_some _) ?_
  dsimp only [List.set_cons_zero, List.set_cons_succ]
  refine aw_alo 3 (pcn := 12) rfl dX6_newStateAsNewest_11 rfl rfl (rf_some _) ?_
  refine aw_ifnull (t := 20) (pcn := 15) dX6_newStateAsNewest_12 rfl (by decide) (rf_some _) (fun q1 => by cases q1) (fun a2 q1 => ?_)
  clear q1 a2
  refine aw_alo 2 (pcn := 16) rfl dX6_newStateAsNewest_15 rfl rfl (rf_some _) ?_
  refine aw_alo 3 (pcn := 17) rfl dX6_newStateAsNewest_16 rfl rfl (rf_some _) ?_
  obtain ⟨gs, hs, hgs⟩ := hW2.st' (s := n) vs2
  refine aw_Vv (pcn := 20) (c_copyFrom hW2 (S := n) (s := ix (nwT T c n)) (c := c) vs2 vb2 (by omega) hc8 b0) mf_X4_copyFrom mv_X4_copyFrom hs rfl ml_X6_119 rfl (by decide) (by decide) (by decide) (by exact Nat.le_of_ble_eq_true rfl) rfl dX6_newStateAsNewest_17 rfl (fun h hW => ?_)
  obtain ⟨hW, hk⟩ := hW
  have hK := hK.trans hk
  refine aw_alo 2 (pcn := 21) rfl dX6_newStateAsNewest_20 rfl rfl (rf_some _) ?_
  exact aw_aret dX6_newStateAsNewest_21 rfl (Or.inl ⟨_, rfl⟩) (rf_some _) ⟨_, rfl, Γ', ow', hG, rfl, hW.eq (cfT_eq hnw.2), hK⟩

set_option maxHeartbeats 1600000 in
set_option maxRecDepth 20000 in
theorem c_removeLock {X : XG} {l : Launch} {Γ : NM} {ow : Nat → Nat × Nat} {h : Hp} {T Tr : TB} {nh : Nat} (hW : WD Γ ow h T Tr nh) {S K : Nat} (vs : S < ix (T 18 0)) (hK3 : K < 3) : AM X l yX4_removeLock cX4_removeLock 2 (none) 0 0 0 [.ref (Γ 8 S), .int (nI K)] h (qv fun h' => WD Γ ow h' (lsU T S K (nI 0) (nI 0) (nI 0) (nI 0) (nI 0)) Tr nh ∧ Kp h h') := by
  refine AM.of (by decide +kernel) (by simp [Value.category]) (Nat.le_of_ble_eq_true rfl) ?_
  show AW X l cX4_removeLock RX4 "removeLock" (none) 2 0 none _ 0 0 0 [some (.ref (Γ 8 S)), some (.int (nI K))] [] h
  obtain ⟨gs, hs, hgs⟩ := hW.st' vs
  obtain ⟨fl, hl1, hl2⟩ := hW.lk vs
  refine aw_ilo 1 (pcn := 1) rfl dX4_removeLock_0 rfl rfl ?_
  refine aw_if_lt (t := 20) (pcn := 4) dX4_removeLock_1 rfl (by decide) (fun q => absurd q (nI_pos (by omega))) (fun _ => ?_)
  refine aw_ilo 1 (pcn := 5) rfl dX4_removeLock_4 rfl rfl ?_
  refine aw_alo 0 (pcn := 6) rfl dX4_removeLock_5 rfl rfl (rf_some _) ?_
  refine aw_getf (pcn := 9) fl_X4_23 dX4_removeLock_6 rfl hs rfl ?_
  refine aw_alenr (v := nI 3) (pcn := 10) dX4_removeLock_9 rfl hl1 (by decide) (by decide) ?_
  refine aw_icmp_ge (t := 20) (pcn := 13) dX4_removeLock_10 rfl (by decide) (fun q => absurd q (nI_ge hK3 (by decide))) (fun _ => ?_)
  refine aw_alo 0 (pcn := 14) rfl dX4_removeLock_13 rfl rfl (rf_some _) ?_
  refine aw_getf (pcn := 17) fl_X4_23 dX4_removeLock_14 rfl hs rfl ?_
  refine aw_ilo 1 (pcn := 18) rfl dX4_removeLock_17 rfl rfl ?_
  refine aw_null (pcn := 19) dX4_removeLock_18 rfl ?_
  exact aw_aastL (pcn := 20) (r := none) hW vs hl1 hl2 hK3 ⟨fun _ => rfl, fun q => absurd nI_0 q⟩ dX4_removeLock_19 rfl (fun h hW hk => aw_ret dX4_removeLock_20 rfl ⟨rfl, hW, hk⟩)

theorem lsU_up (T : TB) (s k : Nat) (mu fr to se ex : Int32) (x : Nat) (w : Int32) (hx : ¬ (35 * s + 16 + 5 * k ≤ x ∧ x < 35 * s + 16 + 5 * k + 5)) : lsU (up T 19 x w) s k mu fr to se ex = up (lsU T s k mu fr to se ex) 19 x w := by
  unfold lsU
  rw [up_commi _ _ _ _ (show x ≠ 35 * s + 16 + 5 * k + 0 by omega), up_commi _ _ _ _ (show x ≠ 35 * s + 16 + 5 * k + 1 by omega), up_commi _ _ _ _ (show x ≠ 35 * s + 16 + 5 * k + 2 by omega), up_commi _ _ _ _ (show x ≠ 35 * s + 16 + 5 * k + 3 by omega), up_commi _ _ _ _ (show x ≠ 35 * s + 16 + 5 * k + 4 by omega)]
theorem lks_go {T : TB} {s k p q z : Nat} {v e : Int32} (hp : p < 6) : up (lsU T s k v (nI p) (nI q) (nI z) e) 19 (35 * s + 4 + p) (lsU T s k v (nI p) (nI q) (nI z) e 19 (35 * s + 4 + p) + -v) = lksT T s k p q z v e := by
  rw [lksT_eq, lsU_up _ _ _ _ _ _ _ _ _ _ (by omega), lsU_o (by omega), Int32.sub_eq_add_neg]
set_option maxHeartbeats 1600000 in
set_option maxRecDepth 20000 in
theorem c_addLock {X : XG} {l : Launch} {Γ : NM} {ow : Nat → Nat × Nat} {h : Hp} {T Tr : TB} {nh : Nat} (hW : WD Γ ow h T Tr nh) {i C n Z hN : Nat} (hI : Iv i T C n Z hN) {S c : Nat} (hSn : S < n) (hcC : c < C) (hc0 : T 19 (35 * S + 0) = nI c) {K P Q z a : Nat} {v e : Int32} (hK3 : K < 3) (hP : P < 6) (hep : epT T S = nI K) (hv0 : ¬ v = 0) (hlo : h a = some (ob 3 [.int (nI P), .int (nI Q), .int v, .int (nI z), .int e])) : AM X l yX4_addLock cX4_addLock 3 (some .int) 1 0 0 [.ref (Γ 8 S), .ref a] h (qi fun r h' => r = nI K ∧ WD Γ ow h' (lksT T S K P Q z v e) Tr nh ∧ Kp h h') := by
  refine AM.of (by decide +kernel) (by simp [Value.category]) (Nat.le_of_ble_eq_true rfl) ?_
  show AW X l cX4_addLock RX4 "addLock" (some .int) 3 1 none _ 0 0 0 [some (.ref (Γ 8 S)), some (.ref a), none] [] h
  have hK : Kp h h := Kp.rfl
  have h64 := hI.n64
  have h8 := hI.C8
  have h16 := hI.Z16
  have h4 := hI.h4
  have hc8 : c < 8 := by omega
  have vc := hI.vc hcC
  have vs := hI.vs hSn
  obtain ⟨g, hc, hg⟩ := hW.ch vc
  obtain ⟨gs, hs, hgs⟩ := hW.st vs hc8 hc0
  obtain ⟨fl, hl1, hl2⟩ := hW.lk vs
  refine aw_alo 0 (pcn := 1) rfl dX4_addLock_0 rfl rfl (rf_some _) ?_
  refine aw_Vi (pcn := 4) (c_emptyPlace hW hI hSn hcC hc0) mf_X4_emptyPlace mv_X4_emptyPlace hs rfl ml_X4_87 rfl (by decide) (by decide) (by decide) (by exact Nat.le_of_ble_eq_true rfl) rfl dX4_addLock_1 rfl (fun r h2 hq => ?_)
  obtain ⟨rfl, hq⟩ := hq
  obtain rfl := hq.symm
  rw [hep]
  refine aw_ist 2 (pcn := 5) rfl dX4_addLock_4 rfl (by decide) ?_
  dsimp only [List.set_cons_zero, List.set_cons_succ]
  refine aw_ilo 2 (pcn := 6) rfl dX4_addLock_5 rfl rfl ?_
  refine aw_if_lt (t := 41) (pcn := 9) dX4_addLock_6 rfl (by decide) (fun q => absurd q (nI_pos (by omega))) (fun _ => ?_)
  refine aw_ilo 2 (pcn := 10) rfl dX4_addLock_9 rfl rfl ?_
  refine aw_alo 0 (pcn := 11) rfl dX4_addLock_10 rfl rfl (rf_some _) ?_
  refine aw_getf (pcn := 14) fl_X4_23 dX4_addLock_11 rfl hs rfl ?_
  refine aw_alenr (v := nI 3) (pcn := 15) dX4_addLock_14 rfl hl1 (by decide) (by decide) ?_
  refine aw_icmp_ge (t := 41) (pcn := 18) dX4_addLock_15 rfl (by decide) (fun q => absurd q (nI_ge hK3 (by decide))) (fun _ => ?_)
  refine aw_alo 0 (pcn := 19) rfl dX4_addLock_18 rfl rfl (rf_some _) ?_
  refine aw_getf (pcn := 22) fl_X4_23 dX4_addLock_19 rfl hs rfl ?_
  refine aw_ilo 2 (pcn := 23) rfl dX4_addLock_22 rfl rfl ?_
  refine aw_alo 1 (pcn := 24) rfl dX4_addLock_23 rfl rfl (rf_some _) ?_
  refine aw_aastL (pcn := 25) (r := some a) hW vs hl1 hl2 hK3 ⟨fun q => absurd q hv0, fun _ => ⟨a, rfl, hlo⟩⟩ dX4_addLock_24 rfl (fun h hW hk => ?_)
  have hK := hK.trans hk
  have hlo := hk.lk hlo
  obtain ⟨gs, hs, hgs⟩ := hW.st' (s := S) vs
  obtain ⟨fs, hsh1, hsh2, hsh3⟩ := hW.sh (s := S) vs
  refine aw_alo 0 (pcn := 26) rfl dX4_addLock_25 rfl rfl (rf_some _) ?_
  refine aw_getf (pcn := 29) fl_X4_12 dX4_addLock_26 rfl hs rfl ?_
  refine aw_alo 1 (pcn := 30) rfl dX4_addLock_29 rfl rfl (rf_some _) ?_
  refine aw_getf (pcn := 33) fl_X4_90 dX4_addLock_30 rfl hlo rfl ?_
  refine aw_alo 1 (pcn := 34) rfl dX4_addLock_33 rfl rfl (rf_some _) ?_
  refine aw_getf (pcn := 37) fl_X4_84 dX4_addLock_34 rfl hlo rfl ?_
  refine aw_ineg (pcn := 38) dX4_addLock_37 rfl ?_
  refine aw_Vv (pcn := 41) (c_add0 hsh1 hsh2 hP _) mf_X5_add mv_X5_add hsh1 rfl ml_X4_93 rfl (by decide) (by decide) (by decide) (by exact Nat.le_of_ble_eq_true rfl) rfl dX4_addLock_38 rfl (fun h hq => ?_)
  have hK := hK.trans (Kp.put hW hq (v8 (T := lsU T S K v (nI P) (nI Q) (nI z) e) vs (by decide) (by decide)))
  have hW := hW.shW (s := S) vs hsh3 hP (fs P + -v)
  rw [← hq] at hW
  clear hq
  rw [hsh3 P hP] at hW
  refine aw_ilo 2 (pcn := 42) rfl dX4_addLock_41 rfl rfl ?_
  exact aw_iret dX4_addLock_42 rfl ⟨_, rfl, ⟨rfl, hW.eq (lks_go hP), hK⟩⟩

theorem out_pos {T : TB} {Z s : Nat} (H : IvS T Z s) : (0 < outT T s) = ¬ (outT T s = 0) := by
  obtain ⟨K, hK, e⟩ := out_nI H
  rw [e, ← nI_0, nI_ltI (by omega) (by omega), nI_eq (by omega) (by omega)]
  exact propext (by omega)
set_option maxHeartbeats 1600000 in
set_option maxRecDepth 20000 in
theorem c_fulfil {X : XG} {l : Launch} {Γ : NM} {ow : Nat → Nat × Nat} {h : Hp} {T Tr : TB} {nh : Nat} (hW : WD Γ ow h T Tr nh) {i C n Z hN : Nat} (hI : Iv i T C n Z hN) {S c : Nat} (hSn : S < n) (hcC : c < C) (hc0 : T 19 (35 * S + 0) = nI c) (h9 : ¬ T 9 c = nI 3) : AM X l yX6_fulfil cX6_fulfil 2 (none) 4 0 0 [.ref (Γ 0 0), .ref (Γ 8 S)] h (qv fun h' => WD Γ ow h' (toT T c S) Tr nh) := by
  refine AM.of (by decide +kernel) (by simp [Value.category]) (Nat.le_of_ble_eq_true rfl) ?_
  show AW X l cX6_fulfil RX6 "fulfil" (none) 2 4 none _ 0 0 0 [some (.ref (Γ 0 0)), some (.ref (Γ 8 S))] [] h
  have h64 := hI.n64
  have h8 := hI.C8
  have h16 := hI.Z16
  have h4 := hI.h4
  have hc8 : c < 8 := by omega
  have vc := hI.vc hcC
  have vs := hI.vs hSn
  obtain ⟨g, hc, hg⟩ := hW.ch vc
  obtain ⟨gs, hs, hgs⟩ := hW.st vs hc8 hc0
  refine aw_alo 1 (pcn := 1) rfl dX6_fulfil_0 rfl rfl (rf_some _) ?_
  refine aw_Vi (pcn := 4) (c_hasOut hW hI hSn hcC hc0) mf_X4_hasOut mv_X4_hasOut hs rfl ml_X6_233 rfl (by decide) (by decide) (by decide) (by exact Nat.le_of_ble_eq_true rfl) rfl dX6_fulfil_1 rfl (fun r h2 hq => ?_)
  obtain ⟨rfl, hq⟩ := hq
  obtain rfl := hq.symm
  refine aw_if_eqB (t := 15) (pcn := 7) dX6_fulfil_4 rfl (by decide) (fun q1 => ?_) (fun q1 => ?_)
  · refine aw_alo 0 (pcn := 16) rfl dX6_fulfil_15 rfl rfl (rf_some _) ?_
    refine aw_alo 1 (pcn := 17) rfl dX6_fulfil_16 rfl rfl (rf_some _) ?_
    refine aw_Vv (pcn := 20) (c_endBy hW (S := S) (c := c) (by omega) vs hc8 vc hc0 (by rw [((hI.he hcC).2.1 h9).1, nI_0]) (fun k hk => ((hI.st hSn).2.2.1 k hk).1) (fun k hk => ((hI.st hSn).2.2.1 k hk).2.1)) mf_X6_endBy mv_X6_endBy hW.sc rfl ml_X6_239 rfl (by decide) (by decide) (by decide) (by exact Nat.le_of_ble_eq_true rfl) rfl dX6_fulfil_17 rfl (fun h hW => ?_)
    exact aw_ret dX6_fulfil_20 rfl ⟨rfl, (by unfold toT; have eo := out_pos (hI.st hSn); first | (rw [if_neg (show ¬ outT T S = 0 by rw [← eo]; exact of_decide_eq_true q1)]; exact hW) | (rw [if_pos (Classical.not_not.mp (show ¬ ¬ outT T S = 0 by rw [← eo]; exact of_decide_eq_false q1))]; exact hW))⟩
  · refine aw_alo 0 (pcn := 8) rfl dX6_fulfil_7 rfl rfl (rf_some _) ?_
    refine aw_alo 1 (pcn := 9) rfl dX6_fulfil_8 rfl rfl (rf_some _) ?_
    refine aw_Vv (pcn := 12) (c_payOuts hW (S := S) (c := c) (by omega) vs hc8 vc hc0) mf_X6_payOuts mv_X6_payOuts hW.sc rfl ml_X6_236 rfl (by decide) (by decide) (by decide) (by exact Nat.le_of_ble_eq_true rfl) rfl dX6_fulfil_9 rfl (fun h hW => ?_)
    refine aw_goto (t := 20) dX6_fulfil_12 (by decide) ?_
    exact aw_ret dX6_fulfil_20 rfl ⟨rfl, (by unfold toT; have eo := out_pos (hI.st hSn); first | (rw [if_neg (show ¬ outT T S = 0 by rw [← eo]; exact of_decide_eq_true q1)]; exact hW) | (rw [if_pos (Classical.not_not.mp (show ¬ ¬ outT T S = 0 by rw [← eo]; exact of_decide_eq_false q1))]; exact hW))⟩
