/-! the class: what is held, heights -/
theorem canT_0 {T : TB} {c b k p : Nat} (h : hasB (T 12 c) (nI k) = false) : canT T c b k p = false := by
  unfold canT
  rw [h, Bool.false_and]
set_option maxHeartbeats 1600000 in
set_option maxRecDepth 20000 in
theorem c_isSecR {X : XG} {l : Launch} {Γ : NM} {ow : Nat → Nat × Nat} {h : Hp} {T Tr : TB} {nh : Nat} (hW : WD Γ ow h T Tr nh) {z Z : Nat} (h3 : T 3 0 = nI Z) (hz : z < Z) (h16 : Z ≤ 16) : AM X l yX6_isSecret cX6_isSecret 2 (some .boolean) 0 0 0 [.ref (Γ 0 0), .int (nI z)] h (qi fun r h' => r = bI true ∧ h' = h) := by
  refine AM.of (by decide +kernel) (by simp [Value.category]) (Nat.le_of_ble_eq_true rfl) ?_
  show AW X l cX6_isSecret RX6 "isSecret" (some .boolean) 2 0 none _ 0 0 0 [some (.ref (Γ 0 0)), some (.int (nI z))] [] h
  refine aw_ilo 1 (pcn := 1) rfl dX6_isSecret_0 rfl rfl ?_
  refine aw_if_lt (t := 25) (pcn := 4) dX6_isSecret_1 rfl (by decide) (fun q => absurd q (nI_pos (by omega))) (fun _ => ?_)
  refine aw_ilo 1 (pcn := 5) rfl dX6_isSecret_4 rfl rfl ?_
  refine aw_alo 0 (pcn := 6) rfl dX6_isSecret_5 rfl rfl (rf_some _) ?_
  refine aw_getf (pcn := 9) fl_X6_274 dX6_isSecret_6 rfl hW.sc rfl ?_
  rw [h3]
  refine aw_icmp_ge (t := 25) (pcn := 12) dX6_isSecret_9 rfl (by decide) (fun q => absurd q (nI_ge hz (by omega))) (fun _ => ?_)
  refine aw_ilo 1 (pcn := 13) rfl dX6_isSecret_12 rfl rfl ?_
  refine aw_alo 0 (pcn := 14) rfl dX6_isSecret_13 rfl rfl (rf_some _) ?_
  refine aw_getf (pcn := 17) fl_X6_28 dX6_isSecret_14 rfl hW.sc rfl ?_
  refine aw_aleni (v := nI 16) (pcn := 18) dX6_isSecret_17 rfl hW.kno (by decide) ?_
  refine aw_icmp_ge (t := 25) (pcn := 21) dX6_isSecret_18 rfl (by decide) (fun q => absurd q (nI_ge (by omega) (by decide))) (fun _ => ?_)
  refine aw_iconst (v := nI 1) (pcn := 22) dX6_isSecret_21 rfl (by decide) ?_
  refine aw_goto (t := 26) dX6_isSecret_22 (by decide) ?_
  exact aw_zret dX6_isSecret_26 rfl (by decide) ⟨_, rfl, ⟨nI_one, rfl⟩⟩

set_option maxHeartbeats 1600000 in
set_option maxRecDepth 20000 in
theorem c_claimHeld {X : XG} {l : Launch} {Γ : NM} {ow : Nat → Nat × Nat} {h : Hp} {T Tr : TB} {nh : Nat} (hW : WD Γ ow h T Tr nh) {i C n Z hN : Nat} (hI : Iv i T C n Z hN) {c : Nat} (hcC : c < C) {K P : Nat} (hK : K < 3) (hP : P < 6) : AM X l yX6_claimHeld cX6_claimHeld 5 (some .int) 3 0 0 [.ref (Γ 0 0), .ref (Γ 7 c), .int (nI K), .int (nI P)] h (qi fun r h' => r = (if canT T c (ix (T 10 c)) K P = true then lkT T (ix (T 10 c)) K 0 else -1) ∧ WD Γ ow h' (cwT T c (ix (T 10 c)) P K) Tr nh) := by
  refine AM.of (by decide +kernel) (by simp [Value.category]) (Nat.le_of_ble_eq_true rfl) ?_
  show AW X l cX6_claimHeld RX6 "claimHeld" (some .int) 5 3 none _ 0 0 0 [some (.ref (Γ 0 0)), some (.ref (Γ 7 c)), some (.int (nI K)), some (.int (nI P)), none] [] h
  have h64 := hI.n64
  have h8 := hI.C8
  have h16 := hI.Z16
  have h4 := hI.h4
  have vc := hI.vc hcC
  obtain ⟨g, hc, hg⟩ := hW.ch vc
  refine aw_alo 1 (pcn := 1) rfl dX6_claimHeld_0 rfl rfl (rf_some _) ?_
  refine aw_ilo 2 (pcn := 2) rfl dX6_claimHeld_1 rfl rfl ?_
  refine aw_Vr (pcn := 5) (c_heldLockAt hW hI hcC hK) mf_X0_heldLockAt mv_X0_heldLockAt hc rfl ml_X6_291 rfl (by decide) (by decide) (by decide) (by exact Nat.le_of_ble_eq_true rfl) rfl dX6_claimHeld_2 rfl (fun r h2 hq => ?_)
  obtain ⟨hq, hh⟩ := hq
  obtain rfl := hh.symm
  rcases hq with ⟨hb0, rfl⟩ | ⟨hb0, a, rfl, hlo⟩
  · refine aw_astore (pcn := 7) dX6_claimHeld_5 rfl (by decide) (rf_none) ?_
    dsimp only [List.set_cons_zero, List.set_cons_succ]
    refine aw_aload (pcn := 9) dX6_claimHeld_7 rfl rfl (rf_none) ?_
    refine aw_ifnull (t := 22) (pcn := 12) dX6_claimHeld_9 rfl (by decide) (rf_none) (fun q1 => ?_) (fun a2 q1 => by cases q1)
    clear q1
    refine aw_iconst (v := -1) (pcn := 23) dX6_claimHeld_22 rfl (by decide) ?_
    exact aw_iret dX6_claimHeld_23 rfl ⟨_, rfl, ⟨by rw [canT_0 hb0]; rfl, by unfold cwT; rw [canT_0 hb0]; exact hW⟩⟩
  · obtain ⟨hmu0, ⟨z, hzZ, hz1⟩, hfr⟩ := hI.heldZ hcC hK hb0
    rw [hz1] at hlo
    have hcan : canT T c (ix (T 10 c)) K P = (decide (lkT T (ix (T 10 c)) K 2 = nI P) && hasB (T 4 z) (nI P)) := by
      unfold canT
      rw [hb0, Bool.true_and, show T 19 (35 * ix (T 10 c) + 16 + 5 * K + 3) = nI z from hz1, ix_nI (by omega)]
    refine aw_astore (pcn := 7) dX6_claimHeld_5 rfl (by decide) (rf_some _) ?_
    dsimp only [List.set_cons_zero, List.set_cons_succ]
    refine aw_aload (pcn := 9) dX6_claimHeld_7 rfl rfl (rf_some _) ?_
    refine aw_ifnull (t := 22) (pcn := 12) dX6_claimHeld_9 rfl (by decide) (rf_some _) (fun q3 => by cases q3) (fun a4 q3 => ?_)
    clear q3 a4
    refine aw_alo 0 (pcn := 13) rfl dX6_claimHeld_12 rfl rfl (rf_some _) ?_
    refine aw_aload (pcn := 15) dX6_claimHeld_13 rfl rfl (rf_some _) ?_
    refine aw_ilo 3 (pcn := 16) rfl dX6_claimHeld_15 rfl rfl ?_
    refine aw_Vi (pcn := 19) (c_canClaim hW hI hlo hzZ hP) mf_X6_canClaim mv_X6_canClaim hW.sc rfl ml_X6_294 rfl (by decide) (by decide) (by decide) (by exact Nat.le_of_ble_eq_true rfl) rfl dX6_claimHeld_16 rfl (fun r h2 hq => ?_)
    obtain ⟨rfl, hq⟩ := hq
    obtain rfl := hq.symm
    refine aw_if_neB (t := 24) (pcn := 22) dX6_claimHeld_19 rfl (by decide) (fun q5 => ?_) (fun q5 => ?_)
    · refine aw_alo 0 (pcn := 25) rfl dX6_claimHeld_24 rfl rfl (rf_some _) ?_
      refine aw_alo 1 (pcn := 26) rfl dX6_claimHeld_25 rfl rfl (rf_some _) ?_
      refine aw_ilo 2 (pcn := 27) rfl dX6_claimHeld_26 rfl rfl ?_
      refine aw_ilo 3 (pcn := 28) rfl dX6_claimHeld_27 rfl rfl ?_
      refine aw_aload (pcn := 30) dX6_claimHeld_28 rfl rfl (rf_some _) ?_
      refine aw_getf (pcn := 33) fl_X6_167 dX6_claimHeld_30 rfl hlo rfl ?_
      refine aw_Vv (pcn := 36) (c_payHeld hW (c := c) vc (K := K) (P := P) hP _ (del_sub (hI.he hcC).1 hK hb0)) mf_X6_payHeldLock mv_X6_payHeldLock hW.sc rfl ml_X6_298 rfl (by decide) (by decide) (by decide) (by exact Nat.le_of_ble_eq_true rfl) rfl dX6_claimHeld_33 rfl (fun h hW => ?_)
      obtain ⟨hW, hk⟩ := hW
      have hlo := hk.lk hlo
      refine aw_alo 0 (pcn := 37) rfl dX6_claimHeld_36 rfl rfl (rf_some _) ?_
      refine aw_aload (pcn := 39) dX6_claimHeld_37 rfl rfl (rf_some _) ?_
      refine aw_getf (pcn := 42) fl_X6_288 dX6_claimHeld_39 rfl hlo rfl ?_
      refine aw_Vi (pcn := 45) (c_isSecR hW (z := z) (Z := Z) hI.z3 hzZ hI.Z16) mf_X6_isSecret mv_X6_isSecret hW.sc rfl ml_X6_136 rfl (by decide) (by decide) (by decide) (by exact Nat.le_of_ble_eq_true rfl) rfl dX6_claimHeld_42 rfl (fun r h2 hq => ?_)
      obtain ⟨rfl, hq⟩ := hq
      obtain rfl := hq.symm
      refine aw_if_eqB (t := 60) (pcn := 48) dX6_claimHeld_45 rfl (by decide) (fun q => by cases q) (fun _ => ?_)
      refine aw_alo 0 (pcn := 49) rfl dX6_claimHeld_48 rfl rfl (rf_some _) ?_
      refine aw_getf (pcn := 52) fl_X6_28 dX6_claimHeld_49 rfl hW.sc rfl ?_
      refine aw_aload (pcn := 54) dX6_claimHeld_52 rfl rfl (rf_some _) ?_
      refine aw_getf (pcn := 57) fl_X6_288 dX6_claimHeld_54 rfl hlo rfl ?_
      refine aw_bipush (v := nI 63) (pcn := 59) dX6_claimHeld_57 rfl (by decide) ?_
      refine aw_iastK (pcn := 60) hW dX6_claimHeld_59 rfl (by omega) (fun h hW hk => ?_)
      have hlo := hk.lk hlo
      refine aw_aload (pcn := 62) dX6_claimHeld_60 rfl rfl (rf_some _) ?_
      refine aw_getf (pcn := 65) fl_X6_167 dX6_claimHeld_62 rfl hlo rfl ?_
      exact aw_iret dX6_claimHeld_65 rfl ⟨_, rfl, ⟨by rw [hcan, q5]; rfl, by unfold cwT; rw [hcan, q5]; exact hW.eq (clm_eq (by rw [hz1, ix_nI (by omega)]))⟩⟩
    · refine aw_iconst (v := -1) (pcn := 23) dX6_claimHeld_22 rfl (by decide) ?_
      exact aw_iret dX6_claimHeld_23 rfl ⟨_, rfl, ⟨by rw [hcan, q5]; rfl, by unfold cwT; rw [hcan, q5]; exact hW⟩⟩

theorem winT_eq {T : TB} {c p : Nat} : payT (up (gmU T c (nI 0) (nI 0) (T 15 c) (T 16 c)) 27 c (nI 0)) c p (T 13 c) = winT T c p := by
  have e : gmU T c (nI 0) (nI 0) (T 15 c) (T 16 c) = up (up T 13 c (nI 0)) 14 c (nI 0) := by
    unfold gmU
    rw [up_id (T := up (up T 13 c (nI 0)) 14 c (nI 0)) (j := 15) (i := c) (by rw [up_j _ _ _ _ (by decide), up_j _ _ _ _ (by decide)]), up_id (T := up (up T 13 c (nI 0)) 14 c (nI 0)) (j := 16) (i := c) (by rw [up_j _ _ _ _ (by decide), up_j _ _ _ _ (by decide)])]
  rw [e, payT_up _ _ _ _ _ _ _ (by decide) (by decide), payT_up _ _ _ _ _ _ _ (by decide) (by decide), payT_up _ _ _ _ _ _ _ (by decide) (by decide)]
  unfold payT winT
  rw [nI_0]
set_option maxHeartbeats 1600000 in
set_option maxRecDepth 20000 in
theorem c_payStake {X : XG} {l : Launch} {Γ : NM} {ow : Nat → Nat × Nat} {h : Hp} {T Tr : TB} {nh : Nat} (hW : WD Γ ow h T Tr nh) {c : Nat} (vc : c < ix (T 5 0)) {P : Nat} (hP : P < 6) {v : Int32} (hv : v = T 13 c) : AM X l yX6_payHeldStake cX6_payHeldStake 4 (none) 2 0 0 [.ref (Γ 0 0), .ref (Γ 7 c), .int (nI P), .int v] h (qv fun h' => WD Γ ow h' (winT T c P) Tr nh ∧ Kp h h') := by
  refine AM.of (by decide +kernel) (by simp [Value.category]) (Nat.le_of_ble_eq_true rfl) ?_
  show AW X l cX6_payHeldStake RX6 "payHeldStake" (none) 4 2 none _ 0 0 0 [some (.ref (Γ 0 0)), some (.ref (Γ 7 c)), some (.int (nI P)), some (.int v)] [] h
  have hK : Kp h h := Kp.rfl
  obtain ⟨g, hc, hg⟩ := hW.ch (c := c) vc
  refine aw_alo 1 (pcn := 1) rfl dX6_payHeldStake_0 rfl rfl (rf_some _) ?_
  refine aw_null (pcn := 2) dX6_payHeldStake_1 rfl ?_
  refine aw_putC (pcn := 5) (T' := gmU T c (nI 0) (nI 0) (T 15 c) (T 16 c)) hW vc hc fp_X6_250 (by decide) (VF.o _ none) (cs_10 _ _ _ none _ _ _ _ _) (hW.chG vc (g := g) ⟨fun _ => rfl, fun q => absurd nI_0 q⟩) dX6_payHeldStake_2 rfl (fun h hW hk => ?_)
  have hK := hK.trans hk
  obtain ⟨g, hc, hg⟩ := hW.ch (c := c) vc
  refine aw_alo 1 (pcn := 6) rfl dX6_payHeldStake_5 rfl rfl (rf_some _) ?_
  refine aw_iconst (v := nI 0) (pcn := 7) dX6_payHeldStake_6 rfl (by decide) ?_
  refine aw_putC (pcn := 10) hW vc hc fp_X6_253 (by decide) (VF.i _) (cs_11 _ _ _ _ _) (hW.chW vc hg (j := 27) (by omega)) dX6_payHeldStake_7 rfl (fun h hW hk => ?_)
  have hK := hK.trans hk
  obtain ⟨g, hc, hg⟩ := hW.ch (c := c) vc
  refine aw_alo 0 (pcn := 11) rfl dX6_payHeldStake_10 rfl rfl (rf_some _) ?_
  refine aw_alo 1 (pcn := 12) rfl dX6_payHeldStake_11 rfl rfl (rf_some _) ?_
  refine aw_ilo 2 (pcn := 13) rfl dX6_payHeldStake_12 rfl rfl ?_
  refine aw_ilo 3 (pcn := 14) rfl dX6_payHeldStake_13 rfl rfl ?_
  refine aw_Vv (pcn := 17) (c_payFrom hW (c := c) vc hP _) mf_X6_payFrom mv_X6_payFrom hW.sc rfl ml_X6_242 rfl (by decide) (by decide) (by decide) (by exact Nat.le_of_ble_eq_true rfl) rfl dX6_payHeldStake_14 rfl (fun h hW => ?_)
  obtain ⟨hW, hk⟩ := hW
  have hK := hK.trans hk
  exact aw_ret dX6_payHeldStake_17 rfl ⟨rfl, hW.eq (by rw [hv]; exact winT_eq), hK⟩

theorem heap_le {hp t : Nat} (h1 : hp ≤ 20) (h2 : t ≤ hp) : (nI hp ≤ nI t) = (nI hp - nI t = 0) := by
  rw [pk_sub h2, ← nI_0, nI_leI (by omega) (by omega), nI_eq (by omega) (by omega)]
  exact propext (by omega)
theorem win_heap {T : TB} {c p : Nat} (v : Int32) : winT (up T 14 c v) c p = winT T c p := by
  unfold winT
  rw [up_comm _ _ _ _ _ (show 14 ≠ 0 by decide), up_comm _ _ _ _ _ (show 14 ≠ 8 by decide), up_comm _ _ _ _ _ (show 14 ≠ 13 by decide), up_up]
  rfl
theorem stp_go {T : TB} {c : Nat} {t : Int32} (h : ¬ T 14 c - t = 0) : up (gmU T c (T 13 c) (T 14 c - t) (T 16 c) (T 15 c)) 27 c (T 2 0 + T 7 c) = up (up (up (up T 14 c (T 14 c - t)) 15 c (T 16 c)) 16 c (T 15 c)) 27 c (T 2 0 + T 7 c) := by
  unfold gmU
  rw [up_same T 13 c]
theorem stp_go2 {T : TB} {c : Nat} {t : Int32} (h : ¬ T 14 c - t = 0) : up (up (up (up (up T 14 c (T 14 c - t)) 15 c (T 16 c)) 16 c (T 15 c)) 27 c (T 2 0 + T 7 c)) 17 c (T 2 0 + T 7 c) = stpT T c t := by
  unfold stpT
  rw [if_neg h, up_comm _ _ _ _ _ (show 27 ≠ 17 by decide)]
theorem stp_end {T : TB} {c : Nat} {t : Int32} (h : T 14 c - t = 0) : winT T c (ix (T 15 c)) = stpT T c t := by
  unfold stpT
  rw [if_pos h, win_heap]
set_option maxHeartbeats 1600000 in
set_option maxRecDepth 20000 in
theorem c_moveHeld {X : XG} {l : Launch} {Γ : NM} {ow : Nat → Nat × Nat} {h : Hp} {T Tr : TB} {nh : Nat} (hW : WD Γ ow h T Tr nh) {c : Nat} (vc : c < ix (T 5 0)) {a P t hp : Nat} (h13 : ¬ T 13 c = 0) (hga : h a = some (ob 1 [.int (T 15 c), .int (T 16 c), .int (T 13 c), .int (T 14 c)])) (hP : P < 6) (hP1 : T 15 c = nI P) (hhp : T 14 c = nI hp) (hk20 : hp ≤ 20) (htk : t ≤ hp) : AM X l yX6_moveHeld cX6_moveHeld 5 (none) 3 1 4 [.ref (Γ 0 0), .ref (Γ 7 c), .ref a, .int (nI t)] h (qv fun h' => WD Γ ow h' (stpT T c (nI t)) Tr nh ∧ Kp h h') := by
  refine AM.of (by decide +kernel) (by simp [Value.category]) (Nat.le_of_ble_eq_true rfl) ?_
  show AW X l cX6_moveHeld RX6 "moveHeld" (none) 5 3 none _ 1 4 0 [some (.ref (Γ 0 0)), some (.ref (Γ 7 c)), some (.ref a), some (.int (nI t)), none] [] h
  have hK : Kp h h := Kp.rfl
  obtain ⟨g, hc, hg⟩ := hW.ch (c := c) vc
  have hka := hga
  refine aw_alo 2 (pcn := 1) rfl dX6_moveHeld_0 rfl rfl (rf_some _) ?_
  refine aw_ilo 3 (pcn := 2) rfl dX6_moveHeld_1 rfl rfl ?_
  refine aw_Vr (pcn := 5) (c_after hga (nI t)) mf_X1_after mv_X1_after hga rfl ml_X6_185 rfl (by decide) (by decide) (by decide) (by exact Nat.le_of_ble_eq_true rfl) rfl dX6_moveHeld_2 rfl (fun r h2 hq => ?_)
  rcases hq with ⟨hle, rfl, hh⟩ | ⟨hle, b, hbn, rfl, hh⟩
  · obtain rfl := hh.symm
    refine aw_astore (pcn := 7) dX6_moveHeld_5 rfl (by decide) (rf_none) ?_
    dsimp only [List.set_cons_zero, List.set_cons_succ]
    refine aw_aload (pcn := 9) dX6_moveHeld_7 rfl rfl (rf_none) ?_
    refine aw_ifnonnull (t := 28) (pcn := 12) dX6_moveHeld_9 rfl (by decide) (rf_none) (fun a2 q1 => by cases q1) (fun q1 => ?_)
    clear q1
    refine aw_alo 0 (pcn := 13) rfl dX6_moveHeld_12 rfl rfl (rf_some _) ?_
    refine aw_alo 1 (pcn := 14) rfl dX6_moveHeld_13 rfl rfl (rf_some _) ?_
    refine aw_alo 2 (pcn := 15) rfl dX6_moveHeld_14 rfl rfl (rf_some _) ?_
    refine aw_getf (pcn := 18) fl_X6_189 dX6_moveHeld_15 rfl hga rfl ?_
    refine aw_alo 2 (pcn := 19) rfl dX6_moveHeld_18 rfl rfl (rf_some _) ?_
    refine aw_getf (pcn := 22) fl_X6_179 dX6_moveHeld_19 rfl hga rfl ?_
    rw [hP1]
    refine aw_Vv (pcn := 25) (c_payStake hW (c := c) vc hP rfl) mf_X6_payHeldStake mv_X6_payHeldStake hW.sc rfl ml_X6_302 rfl (by decide) (by decide) (by decide) (by exact Nat.le_of_ble_eq_true rfl) rfl dX6_moveHeld_22 rfl (fun h hW => ?_)
    obtain ⟨hW, hk⟩ := hW
    have hK := hK.trans hk
    refine aw_goto (t := 47) dX6_moveHeld_25 (by decide) ?_
    exact aw_ret dX6_moveHeld_47 rfl ⟨rfl, (by
        rw [hhp, heap_le hk20 htk, ← hhp] at hle
        first
        | exact hW.eq (by rw [← stp_end hle, hP1, ix_nI (by omega)])
        | exact (hW.eq (stp_go hle)).fr17.eq (stp_go2 hle)), hK⟩
  · have hkb : Kp h h2 := by rw [hh]; exact Kp.new hbn
    have hWb : WD Γ ow h2 T Tr nh := by rw [hh]; exact hW.made hbn
    have hbv : h2 b = some (ob 1 [.int (T 16 c), .int (T 15 c), .int (T 13 c), .int (T 14 c - nI t)]) := by rw [hh]; exact hup_s _ _ _
    clear hh
    have hW := hWb
    have hK := hK.trans hkb
    obtain ⟨g, hc, hg⟩ := hW.ch (c := c) vc
    refine aw_astore (pcn := 7) dX6_moveHeld_5 rfl (by decide) (rf_some _) ?_
    dsimp only [List.set_cons_zero, List.set_cons_succ]
    refine aw_aload (pcn := 9) dX6_moveHeld_7 rfl rfl (rf_some _) ?_
    refine aw_ifnonnull (t := 28) (pcn := 12) dX6_moveHeld_9 rfl (by decide) (rf_some _) (fun a4 q3 => ?_) (fun q3 => by cases q3)
    clear q3 a4
    refine aw_alo 1 (pcn := 29) rfl dX6_moveHeld_28 rfl rfl (rf_some _) ?_
    refine aw_aload (pcn := 31) dX6_moveHeld_29 rfl rfl (rf_some _) ?_
    refine aw_putC (pcn := 34) (T' := gmU T c (T 13 c) (T 14 c - nI t) (T 16 c) (T 15 c)) hW vc hc fp_X6_250 (by decide) (VF.o _ (some _)) (cs_10 _ _ _ (some _) _ _ _ _ _) (hW.chG vc (g := g) ⟨fun q => absurd q h13, fun _ => ⟨b, rfl, hbv⟩⟩) dX6_moveHeld_31 rfl (fun h hW hk => ?_)
    have hK := hK.trans hk
    obtain ⟨g, hc, hg⟩ := hW.ch (c := c) vc
    refine aw_alo 1 (pcn := 35) rfl dX6_moveHeld_34 rfl rfl (rf_some _) ?_
    refine aw_alo 0 (pcn := 36) rfl dX6_moveHeld_35 rfl rfl (rf_some _) ?_
    refine aw_getf (pcn := 39) fl_X6_224 dX6_moveHeld_36 rfl hW.sc rfl ?_
    refine aw_alo 1 (pcn := 40) rfl dX6_moveHeld_39 rfl rfl (rf_some _) ?_
    refine aw_getf (pcn := 43) fl_X6_227 dX6_moveHeld_40 rfl hc rfl ?_
    refine aw_iadd (pcn := 44) dX6_moveHeld_43 rfl ?_
    refine aw_putC (pcn := 47) hW vc hc fp_X6_253 (by decide) (VF.i _) (cs_11 _ _ _ _ _) (hW.chW vc hg (j := 27) (by omega)) dX6_moveHeld_44 rfl (fun h hW hk => ?_)
    have hK := hK.trans hk
    obtain ⟨g, hc, hg⟩ := hW.ch (c := c) vc
    exact aw_ret dX6_moveHeld_47 rfl ⟨rfl, (by
        rw [hhp, heap_le hk20 htk, ← hhp] at hle
        first
        | exact hW.eq (by rw [← stp_end hle, hP1, ix_nI (by omega)])
        | exact (hW.eq (stp_go hle)).fr17.eq (stp_go2 hle)), hK⟩
