/-! the class's face: paying along the route -/
theorem pyhT_e {T : TB} {n q z c K P Q : Nat} {v e : Int32} (hc : hpC T q = c) (hP : T 22 q = nI P) (hP6 : P < 6) (hQ : T 23 q = nI Q) (hQ6 : Q < 6) (hK : epT (copT T c n (ix (nwT T c n))) n = nI K) (hK3 : K < 3) : pyhT T n q z v e = up (up (lksT (copT T c n (ix (nwT T c n))) n K P Q z v e) 19 (35 * n + 2) (lksT (copT T c n (ix (nwT T c n))) n K P Q z v e 6 c)) 25 c (nI n) := by
  unfold pyhT pyh0
  rw [hc, hP, hQ, hK, ix_nI (by omega), ix_nI (by omega), ix_nI (by omega), lksT_j _ _ _ _ _ _ _ _ _ (by decide), copT_j _ _ _ _ _ (by decide)]
theorem ns_py {i : Nat} {T : TB} {C n Z hN q z : Nat} {v e : Int32} (H : Iv i T C n Z hN) (hn : n < 64) (hc : hpC T q < C) (h9 : ¬ T 9 (hpC T q) = nI 3) (hP : ix (T 22 q) < 6) (hQ : ix (T 23 q) < 6) (hz : z < Z) (hv : 0 ≤ v) (hep : ¬ epT (copT T (hpC T q) n (ix (nwT T (hpC T q) n))) n = -1) {T4 : TB} (e4 : pyhT T n q z v e = up T4 25 (hpC T q) (nI n)) (t25 : T4 25 (hpC T q) = T 25 (hpC T q)) : nsV T4 (hpC T q) n = nI n := by
  have h64 := H.n64
  have h8 := H.C8
  have HQ := H.pyh hn hc h9 hP hQ hz hv hep (e := e)
  obtain ⟨w1, w2⟩ := H.nw hc h9
  obtain ⟨p1, p2⟩ := pyhT_v T q z v e w2 hP hep
  obtain ⟨_, s0c, _⟩ := nwT_ch h64 (by omega) w1
  have p9 : pyhT T n q z v e 9 (hpC T q) = T 9 (hpC T q) := pyhT_j _ _ _ _ _ _ _ (by decide)
  have g25 := ((H.ch hc).2.2.2.2.2.2.2.1 h9).1
  generalize hpC T q = c at *
  rw [e4] at HQ p1 p2 p9
  have q9 : ¬ (up T4 25 c (nI n)) 9 c = nI 3 := by rw [p9]; exact h9
  have q25 := ((HQ.ch hc).2.2.2.2.2.2.2.1 q9).1
  rw [up_s] at q25
  obtain ⟨_, _, hcn⟩ := nwT_ch (n := n + 1) (by omega) hn q25.symm
  have r : ∀ s, s < n + 1 → T4 19 (35 * s + 0) = nI c → T4 19 (35 * s + 1) = rkT (up T4 25 c (nI n)) c s := fun s hs hsc => by
    obtain ⟨d, d1, d2, d3, _⟩ := HQ.sr hs
    rw [up_j _ _ _ _ (by decide), hsc, nI_eq (by omega) (by omega)] at d2
    rw [up_j _ _ _ _ (by decide)] at d3
    subst d2; exact d3
  have y0 : T4 19 (35 * ix (nwT T c n) + 0) = nI c := by
    have := p1 (35 * ix (nwT T c n) + 0) (by omega)
    rw [up_j _ _ _ _ (by decide)] at this
    rw [this]; exact s0c
  have yn : T4 19 (35 * n + 0) = nI c := by rw [up_j _ _ _ _ (by decide)] at p2; exact p2
  unfold nsV
  rw [t25, g25, w1, ix_nI (by omega), r _ (by omega) y0, r n (by omega) yn]
  exact if_pos ⟨hcn, rk_lt w2 (by omega) (by rw [up_j _ _ _ _ (by decide)]; exact y0)⟩
set_option maxHeartbeats 1600000 in
set_option maxRecDepth 20000 in
theorem c_noteSignedK {X : XG} {l : Launch} {Γ : NM} {ow : Nat → Nat × Nat} {h : Hp} {T Tr : TB} {nh : Nat} (hW : WD Γ ow h T Tr nh) {S c : Nat} (hS : S < 64) (vs : S < ix (T 18 0)) (hc8 : c < 8) (vc : c < ix (T 5 0)) (hc0 : T 19 (35 * S + 0) = nI c) {s0 : Nat} (hs0 : s0 < 64) (vs0 : s0 < ix (T 18 0)) (h25 : T 25 c = nI s0) : AM X l yX0_noteSigned cX0_noteSigned 2 (none) 3 0 0 [.ref (Γ 7 c), .ref (Γ 8 S)] h (qv fun h' => WD Γ ow h' (up T 25 c (nsV T c S)) Tr nh ∧ Kp h h') := by
  refine AM.of (by decide +kernel) (by simp [Value.category]) (Nat.le_of_ble_eq_true rfl) ?_
  show AW X l cX0_noteSigned RX0 "noteSigned" (none) 2 3 none _ 0 0 0 [some (.ref (Γ 7 c)), some (.ref (Γ 8 S))] [] h
  have hK : Kp h h := Kp.rfl
  obtain ⟨gs, hs, hgs⟩ := hW.st (s := S) vs hc8 hc0
  obtain ⟨g, hc, hg⟩ := hW.ch (c := c) vc
  obtain ⟨g0, hb0, _⟩ := hW.st' vs0
  refine aw_alo 1 (pcn := 1) rfl dX0_noteSigned_0 rfl rfl (rf_some _) ?_
  obtain ⟨gs, hs, hgs⟩ := hW.st (s := S) vs hc8 hc0
  refine aw_Vi (pcn := 4) (c_doesCountR hW vs hc8 vc hc0) mf_X4_doesCount mv_X4_doesCount hs rfl ml_X0_28 rfl (by decide) (by decide) (by decide) (by exact Nat.le_of_ble_eq_true rfl) rfl dX0_noteSigned_1 rfl (fun r h2 hq => ?_)
  obtain ⟨rfl, hq⟩ := hq
  obtain rfl := hq.symm
  refine aw_if_eqB (t := 33) (pcn := 7) dX0_noteSigned_4 rfl (by decide) (fun q1 => ?_) (fun q1 => ?_)
  · exact aw_ret dX0_noteSigned_33 rfl ⟨rfl, (by unfold nsV; rw [show ix (T 25 c) = s0 by rw [h25, ix_nI (by omega)]]; first | (rw [if_pos ⟨q1, Int32.not_le.mp q1⟩]; exact hW) | (rw [if_neg (fun e => by rw [q1] at e; exact absurd e.1 (by decide)), up_same]; exact hW) | (rw [if_neg (fun e => absurd e.2 (Int32.not_lt.mpr q1)), up_same]; exact hW)), hK⟩
  · refine aw_alo 0 (pcn := 8) rfl dX0_noteSigned_7 rfl rfl (rf_some _) ?_
    obtain ⟨g, hc, hg⟩ := hW.ch (c := c) vc
    refine aw_getf (pcn := 11) fl_X0_34 dX0_noteSigned_8 rfl hc rfl ?_
    rw [h25, sref_nI hs0]
    refine aw_ifnull (t := 28) (pcn := 14) dX0_noteSigned_11 rfl (by decide) (rf_some _) (fun q2 => by cases q2) (fun a3 q2 => ?_)
    clear q2 a3
    refine aw_alo 1 (pcn := 15) rfl dX0_noteSigned_14 rfl rfl (rf_some _) ?_
    obtain ⟨gs, hs, hgs⟩ := hW.st (s := S) vs hc8 hc0
    refine aw_getf (pcn := 18) fl_X0_38 dX0_noteSigned_15 rfl hs rfl ?_
    refine aw_alo 0 (pcn := 19) rfl dX0_noteSigned_18 rfl rfl (rf_some _) ?_
    obtain ⟨g, hc, hg⟩ := hW.ch (c := c) vc
    refine aw_getf (pcn := 22) fl_X0_34 dX0_noteSigned_19 rfl hc rfl ?_
    rw [h25, sref_nI hs0]
    refine aw_getf (pcn := 25) fl_X0_38 dX0_noteSigned_22 rfl hb0 rfl ?_
    refine aw_icmp_le (t := 33) (pcn := 28) dX0_noteSigned_25 rfl (by decide) (fun q4 => ?_) (fun q4 => ?_)
    · exact aw_ret dX0_noteSigned_33 rfl ⟨rfl, (by unfold nsV; rw [show ix (T 25 c) = s0 by rw [h25, ix_nI (by omega)]]; first | (rw [if_pos ⟨q1, Int32.not_le.mp q4⟩]; exact hW) | (rw [if_neg (fun e => by rw [q1] at e; exact absurd e.1 (by decide)), up_same]; exact hW) | (rw [if_neg (fun e => absurd e.2 (Int32.not_lt.mpr q4)), up_same]; exact hW)), hK⟩
    · refine aw_alo 0 (pcn := 29) rfl dX0_noteSigned_28 rfl rfl (rf_some _) ?_
      refine aw_alo 1 (pcn := 30) rfl dX0_noteSigned_29 rfl rfl (rf_some _) ?_
      refine aw_putC (pcn := 33) (T' := up _ 25 c (nI S)) hW vc hc fp_X0_34 (by decide) (VF.o _ (some _)) (by rw [← cs_6, sref_nI hS]; rfl) (hW.chW vc hg (j := 25) (by omega)) dX0_noteSigned_30 rfl (fun h hW hk => ?_)
      have hK := hK.trans hk
      obtain ⟨g, hc, hg⟩ := hW.ch (c := c) vc
      exact aw_ret dX0_noteSigned_33 rfl ⟨rfl, (by unfold nsV; rw [show ix (T 25 c) = s0 by rw [h25, ix_nI (by omega)]]; first | (rw [if_pos ⟨q1, Int32.not_le.mp q4⟩]; exact hW) | (rw [if_neg (fun e => by rw [q1] at e; exact absurd e.1 (by decide)), up_same]; exact hW) | (rw [if_neg (fun e => absurd e.2 (Int32.not_lt.mpr q4)), up_same]; exact hW)), hK⟩

set_option maxHeartbeats 1600000 in
set_option maxRecDepth 20000 in
theorem c_payHop {X : XG} {l : Launch} {Γ : NM} {ow : Nat → Nat × Nat} {h : Hp} {T Tr : TB} {nh : Nat} (hW : WD Γ ow h T Tr nh) {i C n Z hN : Nat} (hI : Iv i T C n Z hN) {q z a : Nat} {v e : Int32} (hn64 : n < 64) (hcC : hpC T q < C) (h9 : ¬ T 9 (hpC T q) = nI 3) (h22 : okI (T 22 q) 6) (h23 : okI (T 23 q) 6) (hz : z < Z) (hv0 : 0 ≤ v) (hv1 : ¬ v = 0) (hep : ¬ epT (copT T (hpC T q) n (ix (nwT T (hpC T q) n))) n = -1) (ha : h a = some (ob 2 [.ref (Γ 7 (hpC T q)), .int (T 22 q), .int (T 23 q)])) : AM X l yX6_payHop cX6_payHop 6 (none) 5 7 31 [.ref (Γ 0 0), .ref a, .int v, .int (nI z), .int e] h (qv fun h' => ∃ Γ' ow', (∀ k i, vld T k i → Γ' k i = Γ k i) ∧ WD Γ' ow' h' (pyhT T n q z v e) Tr nh ∧ Kp h h') := by
  refine AM.of (by decide +kernel) (by simp [Value.category]) (Nat.le_of_ble_eq_true rfl) ?_
  show AW X l cX6_payHop RX6 "payHop" (none) 6 5 none _ 7 31 0 [some (.ref (Γ 0 0)), some (.ref a), some (.int v), some (.int (nI z)), some (.int e), none] [] h
  have hK : Kp h h := Kp.rfl
  have h64 := hI.n64
  have h8 := hI.C8
  have h16 := hI.Z16
  have h4 := hI.h4
  have hc8' : hpC T q < 8 := by omega
  have hcX := hcC
  have h9X := h9
  have hepX := hep
  obtain ⟨P, hP, h22⟩ := h22
  obtain ⟨Q, hQ, h23⟩ := h23
  have hPX : ix (T 22 q) < 6 := by rw [h22, ix_nI (by omega)]; exact hP
  have hQX : ix (T 23 q) < 6 := by rw [h23, ix_nI (by omega)]; exact hQ
  obtain ⟨c, ec⟩ : ∃ c, hpC T q = c := ⟨_, rfl⟩
  rw [ec, h22, h23] at ha
  rw [ec] at hcC h9 hep
  have hc8 : c < 8 := by omega
  have vc := hI.vc hcC
  obtain ⟨w1, w2⟩ := hI.nw hcC h9
  have g25 := ((hI.ch hcC).2.2.2.2.2.2.2.1 h9).1
  obtain ⟨K, hK3, hep⟩ := ep_nI hep
  refine aw_alo 0 (pcn := 1) rfl dX6_payHop_0 rfl rfl (rf_some _) ?_
  refine aw_alo 1 (pcn := 2) rfl dX6_payHop_1 rfl rfl (rf_some _) ?_
  refine aw_getf (pcn := 5) fl_X6_354 dX6_payHop_2 rfl ha rfl ?_
  refine aw_Vr (pcn := 8) (c_newNewest hW hI hcC hn64 h9) mf_X6_newStateAsNewest mv_X6_newStateAsNewest hW.sc rfl ml_X6_100 rfl (by decide) (by decide) (by decide) (by exact Nat.le_of_ble_eq_true rfl) rfl dX6_payHop_5 rfl (fun r h2 hq => ?_)
  obtain ⟨Γ', ow', hG, rfl, hW, hk⟩ := hq
  have hK := hK.trans hk
  have ha := hk.hp ha
  rw [← hG 7 c (v7 vc)] at ha
  have hI2 := hI.cop hn64 hcC h9
  obtain ⟨hc0, _, _, _, _, _, _, _, c18, _, cj⟩ := copT_v T c w2
  rw [← hG 0 0 (v0 (by decide))]
  have vs := hI2.vs (show n < n + 1 by omega)
  have vc := hI2.vc hcC
  have eT := pyhT_e (T := T) (n := n) (q := q) (z := z) (v := v) (e := e) ec h22 hP h23 hQ hep hK3
  have e25 : copT T c n (ix (nwT T c n)) 25 c = T 25 c := cj 25 c (by decide) (by omega) (by omega)
  obtain ⟨T2, eT2⟩ : ∃ x, x = copT T c n (ix (nwT T c n)) := ⟨_, rfl⟩
  rw [← eT2] at hW hI2 hc0 c18 hep vs vc eT e25
  refine aw_astore (pcn := 10) dX6_payHop_8 rfl (by decide) (rf_some _) ?_
  dsimp only [List.set_cons_zero, List.set_cons_succ]
  refine aw_aload (pcn := 12) dX6_payHop_10 rfl rfl (rf_some _) ?_
  refine aw_new 5 (pcn := 15) nw_X6_144 rfl dX6_payHop_12 rfl (by decide) (by decide) (fun a2 za => ?_)
  have hna : a ≠ a2 := fun e => by rw [e, za] at ha; cases ha
  have ha2 : (hup h2 a2 (ob 3 [.int 0, .int 0, .int 0, .int 0, .int 0])) a = some (ob 2 [.ref (Γ' 7 c), .int (nI P), .int (nI Q)]) := by rw [hup_n _ _ hna]; exact ha
  refine aw_dup (pcn := 16) dX6_payHop_15 rfl rfl ?_
  refine aw_alo 1 (pcn := 17) rfl dX6_payHop_16 rfl rfl (rf_some _) ?_
  refine aw_getf (pcn := 20) fl_X6_358 dX6_payHop_17 rfl ha2 rfl ?_
  refine aw_alo 1 (pcn := 21) rfl dX6_payHop_20 rfl rfl (rf_some _) ?_
  refine aw_getf (pcn := 24) fl_X6_345 dX6_payHop_21 rfl ha2 rfl ?_
  refine aw_ilo 2 (pcn := 25) rfl dX6_payHop_24 rfl rfl ?_
  refine aw_ilo 3 (pcn := 26) rfl dX6_payHop_25 rfl rfl ?_
  refine aw_iload (pcn := 28) dX6_payHop_26 rfl rfl ?_
  refine aw_Iv (rty := none) (pcn := 31) (c_Lock (hup_s _ _ _) (nI P) (nI Q) v (nI z) e) mf_X3_init mv_X3_init rfl ml_X6_146 rfl (by decide) (by decide) (by decide) (by exact Nat.le_of_ble_eq_true rfl) rfl dX6_payHop_28 rfl (fun h3 hq => ?_)
  rw [hup_hup] at hq
  have hK := hK.trans (Kp.new (c := ob 3 [.int (nI P), .int (nI Q), .int v, .int (nI z), .int e]) za)
  rw [← hq] at hK
  have hW := hW.made (c := ob 3 [.int (nI P), .int (nI Q), .int v, .int (nI z), .int e]) za
  rw [← hq] at hW
  have hlo : h3 a2 = some (ob 3 [.int (nI P), .int (nI Q), .int v, .int (nI z), .int e]) := by rw [hq]; exact hup_s _ _ _
  have ha : h3 a = some (ob 2 [.ref (Γ' 7 c), .int (nI P), .int (nI Q)]) := by rw [hq, hup_n _ _ hna]; exact ha
  obtain ⟨gs, hs, hgs⟩ := hW.st (s := n) vs hc8 hc0
  refine aw_Vi (pcn := 34) (c_addLock hW hI2 (S := n) (by omega) hcC hc0 hK3 hP hep hv1 hlo) mf_X4_addLock mv_X4_addLock hs rfl ml_X6_149 rfl (by decide) (by decide) (by decide) (by exact Nat.le_of_ble_eq_true rfl) rfl dX6_payHop_31 rfl (fun r h hq => ?_)
  obtain ⟨rfl, hW, hk⟩ := hq
  have hK := hK.trans hk
  have hc0 : (lksT T2 n K P Q z v e) 19 (35 * n + 0) = nI c := by rw [lksT_eq, lsU_o (by omega), up_i _ _ _ (by omega)]; exact hc0
  have ha := hk.hp ha
  have vs : n < ix ((lksT T2 n K P Q z v e) 18 0) := vs
  have vc : c < ix ((lksT T2 n K P Q z v e) 5 0) := vc
  have e25 : (lksT T2 n K P Q z v e) 25 c = T 25 c := e25
  have v18 : ix ((lksT T2 n K P Q z v e) 18 0) = n + 1 := by rw [show (lksT T2 n K P Q z v e) 18 0 = T2 18 0 from rfl, c18, ix_nI (by omega)]
  obtain ⟨T3, eT3⟩ : ∃ x, x = lksT T2 n K P Q z v e := ⟨_, rfl⟩
  rw [← eT3] at hW hc0 vs vc eT e25 v18
  refine aw_pop (pcn := 35) dX6_payHop_34 rfl rfl ?_
  refine aw_aload (pcn := 37) dX6_payHop_35 rfl rfl (rf_some _) ?_
  refine aw_alo 1 (pcn := 38) rfl dX6_payHop_37 rfl rfl (rf_some _) ?_
  refine aw_getf (pcn := 41) fl_X6_354 dX6_payHop_38 rfl ha rfl ?_
  obtain ⟨g, hc, hg⟩ := hW.ch (c := c) vc
  refine aw_getf (pcn := 44) fl_X6_218 dX6_payHop_41 rfl hc rfl ?_
  obtain ⟨gs, hs, hgs⟩ := hW.st (s := n) vs hc8 hc0
  refine aw_putS (pcn := 47) hW vs hs fp_X6_83 (by decide) (VF.i _) (ss_7 _ _ _ _ _ _) (hW.stW vs hc8 hc0 hgs (j := 2) (by decide)) dX6_payHop_44 rfl (fun h hW hk => ?_)
  have hK := hK.trans hk
  have ha := hk.hp ha
  refine aw_alo 1 (pcn := 48) rfl dX6_payHop_47 rfl rfl (rf_some _) ?_
  refine aw_getf (pcn := 51) fl_X6_354 dX6_payHop_48 rfl ha rfl ?_
  refine aw_aload (pcn := 53) dX6_payHop_51 rfl rfl (rf_some _) ?_
  have hnsv := ns_py hI hn64 hcX h9X hPX hQX hz hv0 hepX (by rw [ec]; exact eT) (by rw [ec, up_j _ _ _ _ (by decide)]; exact e25)
  rw [ec] at hnsv
  obtain ⟨g, hc, hg⟩ := hW.ch (c := c) vc
  refine aw_Vv (pcn := 56) (c_noteSignedK hW (S := n) (c := c) (s0 := ix (nwT T c n)) hn64 vs hc8 vc (by rw [up_i _ _ _ (by omega)]; exact hc0) (by omega) (show _ < ix (T3 18 0) by omega) (by rw [up_j _ _ _ _ (by decide), e25, g25, ← w1])) mf_X0_noteSigned mv_X0_noteSigned hc rfl ml_X6_199 rfl (by decide) (by decide) (by decide) (by exact Nat.le_of_ble_eq_true rfl) rfl dX6_payHop_53 rfl (fun h hW => ?_)
  obtain ⟨hW, hk⟩ := hW
  have hK := hK.trans hk
  exact aw_ret dX6_payHop_56 rfl ⟨rfl, Γ', ow', hG, hW.eq (by rw [eT, hnsv]), hK⟩

theorem vld_mono {T T' : TB} (h5 : T' 5 0 = T 5 0) (h18 : ix (T 18 0) ≤ ix (T' 18 0)) {k i : Nat} (h : vld T k i) : vld T' k i := by
  unfold vld at h ⊢
  rw [h5]
  omega
theorem endE_sec (T : TB) (Z P : Nat) (e : Int32) : ∀ q, endE (secT T Z P) e q = endE T e q
  | 0 => rfl
  | q + 1 => by
    show endE (secT T Z P) e q + _ = _
    rw [endE_sec T Z P e q]
    rfl
theorem pyhA_s (T : TB) (n Z : Nat) (v e : Int32) (q : Nat) : pyhA T n Z v e (q + 1) = (pyhT (pyhA T n Z v e q).1 (n + q) q Z v (pyhA T n Z v e q).2, (pyhA T n Z v e q).2 - ((pyhA T n Z v e q).1 7 (hpC (pyhA T n Z v e q).1 q) + nI 1)) := rfl
set_option maxHeartbeats 1600000 in
set_option maxRecDepth 20000 in
theorem c_a_pay {X : XG} {l : Launch} {Γ : NM} {ow : Nat → Nat × Nat} {h : Hp} {T Tr : TB} {nh : Nat} (hW : WD Γ ow h T Tr nh) {i C n Z hN : Nat} {T0 : TB} (hT0 : up T 20 0 (nI 0) = T0) (v e : Int32) (hI0 : Iv i T0 C n Z 0) (hn : T 20 0 = nI hN) (h4 : hN ≤ 4) (hH : IvH T0 C hN) (hP : PyOK i T0 C n Z hN v e) (hnh : hN ≤ nh) (h4n : nh ≤ 4) : AM X l yX6_pay cX6_pay 9 (some .int) 6 28 124 [.ref (Γ 0 0), .int v, .int e] h (qi fun r h' => r = (payT0 T0 n Z hN v e).1 ∧ ∃ Γ' ow', (∀ k i, vld T0 k i → Γ' k i = Γ k i) ∧ WD Γ' ow' h' (payT0 T0 n Z hN v e).2 Tr nh) := by
  refine AM.of (by decide +kernel) (by simp [Value.category]) (Nat.le_of_ble_eq_true rfl) ?_
  show AW X l cX6_pay RX6 "pay" (some .int) 9 6 none _ 28 124 0 [some (.ref (Γ 0 0)), some (.int v), some (.int e), none, none, none, none, none, none] [] h
  have h64 := hI0.n64
  have h8 := hI0.C8
  have h16 := hI0.Z16
  refine aw_alo 0 (pcn := 1) rfl dX6_pay_0 rfl rfl (rf_some _) ?_
  refine aw_getf (pcn := 4) fl_X6_329 dX6_pay_1 rfl hW.sc rfl ?_
  rw [hn]
  refine aw_ist 3 (pcn := 5) rfl dX6_pay_4 rfl (by decide) ?_
  dsimp only [List.set_cons_zero, List.set_cons_succ]
  refine aw_alo 0 (pcn := 6) rfl dX6_pay_5 rfl rfl (rf_some _) ?_
  refine aw_iconst (v := nI 0) (pcn := 7) dX6_pay_6 rfl (by decide) ?_
  refine aw_putO (pcn := 10) (j' := 20) hW fp_X6_329 (by decide) (by decide) (os_8 _ _ _) dX6_pay_7 rfl (fun h hW hk => ?_)
  rw [hT0] at hW
  refine aw_ilo 1 (pcn := 11) rfl dX6_pay_10 rfl rfl ?_
  refine aw_iconst (v := nI 1) (pcn := 12) dX6_pay_11 rfl (by decide) ?_
  refine aw_ldc (pcn := 14) ct_X6_132 dX6_pay_12 rfl ?_
  rw [show (60000 : Int32) = nI 60000 by decide]
  refine aw_Si (pcn := 17) (c_isWithin _ _ _) mf_X6_isWithin mv_X6_isWithin ml_X6_42 rfl (by decide) (by decide) (by decide) (by exact Nat.le_of_ble_eq_true rfl) rfl dX6_pay_14 rfl (fun r h2 hq => ?_)
  obtain ⟨rfl, hq⟩ := hq
  obtain rfl := hq.symm
  refine aw_if_eqB (t := 30) (pcn := 20) dX6_pay_17 rfl (by decide) (fun q1 => ?_) (fun q1 => ?_)
  · refine aw_bipush (v := -3) (pcn := 32) dX6_pay_30 rfl (by decide) ?_
    exact aw_iret dX6_pay_32 rfl ⟨_, rfl, ret5 (by unfold payT0; rw [if_pos (by simp only [q1, Bool.false_eq_true, Bool.true_eq_false, reduceCtorEq, if_true, if_false, or_false, false_or, or_true, true_or, not_true_eq_false, not_false_eq_true, or_self])]) (fun _ _ _ => rfl) hW⟩
  · refine aw_ilo 2 (pcn := 21) rfl dX6_pay_20 rfl rfl ?_
    refine aw_iconst (v := nI 1) (pcn := 22) dX6_pay_21 rfl (by decide) ?_
    refine aw_ldc (pcn := 24) ct_X6_139 dX6_pay_22 rfl ?_
    rw [show (1000000 : Int32) = nI 1000000 by decide]
    refine aw_Si (pcn := 27) (c_isWithin _ _ _) mf_X6_isWithin mv_X6_isWithin ml_X6_42 rfl (by decide) (by decide) (by decide) (by exact Nat.le_of_ble_eq_true rfl) rfl dX6_pay_24 rfl (fun r h2 hq => ?_)
    obtain ⟨rfl, hq⟩ := hq
    obtain rfl := hq.symm
    refine aw_if_neB (t := 33) (pcn := 30) dX6_pay_27 rfl (by decide) (fun q2 => ?_) (fun q2 => ?_)
    · refine aw_alo 0 (pcn := 34) rfl dX6_pay_33 rfl rfl (rf_some _) ?_
      refine aw_ilo 3 (pcn := 35) rfl dX6_pay_34 rfl rfl ?_
      refine aw_iconst (v := nI 1) (pcn := 36) dX6_pay_35 rfl (by decide) ?_
      refine aw_isub (pcn := 37) dX6_pay_36 rfl ?_
      refine aw_Vr (pcn := 40) (c_hopAtX hW hnh h4n) mf_X6_hopAt mv_X6_hopAt hW.sc rfl ml_X6_338 rfl (by decide) (by decide) (by decide) (by exact Nat.le_of_ble_eq_true rfl) rfl dX6_pay_37 rfl (fun r h2 hq => ?_)
      obtain ⟨hq, hh⟩ := hq
      obtain rfl := hh.symm
      rcases hq with ⟨e0, rfl⟩ | ⟨q, e0, a, rfl, ha⟩
      · refine aw_astore (pcn := 42) dX6_pay_40 rfl (by decide) (rf_none) ?_
        dsimp only [List.set_cons_zero, List.set_cons_succ]
        refine aw_aload (pcn := 44) dX6_pay_42 rfl rfl (rf_none) ?_
        refine aw_ifnull (t := 71) (pcn := 47) dX6_pay_44 rfl (by decide) (rf_none) (fun q3 => ?_) (fun a4 q3 => by cases q3)
        clear q3
        refine aw_bipush (v := -4) (pcn := 73) dX6_pay_71 rfl (by decide) ?_
        exact aw_iret dX6_pay_73 rfl ⟨_, rfl, ret5 (by unfold payT0; rw [if_neg (by simp only [q1, q2, Bool.false_eq_true, Bool.true_eq_false, reduceCtorEq, if_true, if_false, or_false, false_or, or_true, true_or, not_true_eq_false, not_false_eq_true, or_self]), if_pos (Or.inl e0)]) (fun _ _ _ => rfl) hW⟩
      · refine aw_astore (pcn := 42) dX6_pay_40 rfl (by decide) (rf_some _) ?_
        dsimp only [List.set_cons_zero, List.set_cons_succ]
        refine aw_aload (pcn := 44) dX6_pay_42 rfl rfl (rf_some _) ?_
        refine aw_ifnull (t := 71) (pcn := 47) dX6_pay_44 rfl (by decide) (rf_some _) (fun q5 => by cases q5) (fun a6 q5 => ?_)
        clear q5 a6
        refine aw_alo 0 (pcn := 48) rfl dX6_pay_47 rfl rfl (rf_some _) ?_
        refine aw_Vi (pcn := 51) (c_hasRoomZ hW hI0) mf_X6_hasRoomForSecret mv_X6_hasRoomForSecret hW.sc rfl ml_X6_265 rfl (by decide) (by decide) (by decide) (by exact Nat.le_of_ble_eq_true rfl) rfl dX6_pay_48 rfl (fun r h2 hq => ?_)
        obtain ⟨rfl, hq⟩ := hq
        obtain rfl := hq.symm
        refine aw_if_eqB (t := 71) (pcn := 54) dX6_pay_51 rfl (by decide) (fun q7 => ?_) (fun q7 => ?_)
        · refine aw_bipush (v := -4) (pcn := 73) dX6_pay_71 rfl (by decide) ?_
          exact aw_iret dX6_pay_73 rfl ⟨_, rfl, ret5 (by unfold payT0; rw [if_neg (by simp only [q1, q2, Bool.false_eq_true, Bool.true_eq_false, reduceCtorEq, if_true, if_false, or_false, false_or, or_true, true_or, not_true_eq_false, not_false_eq_true, or_self]), if_pos (Or.inr (Or.inl (by cases e : decide (T0 3 0 = nI 16) with | true => exact of_decide_eq_true e | false => rw [e] at q7; cases q7)))]) (fun _ _ _ => rfl) hW⟩
        · refine aw_alo 0 (pcn := 55) rfl dX6_pay_54 rfl rfl (rf_some _) ?_
          refine aw_ilo 3 (pcn := 56) rfl dX6_pay_55 rfl rfl ?_
          refine aw_Vi (pcn := 59) (c_hasRoomS hW hI0 (k := hN) (by omega)) mf_X6_hasRoomForStates mv_X6_hasRoomForStates hW.sc rfl ml_X6_56 rfl (by decide) (by decide) (by decide) (by exact Nat.le_of_ble_eq_true rfl) rfl dX6_pay_56 rfl (fun r h2 hq => ?_)
          obtain ⟨rfl, hq⟩ := hq
          obtain rfl := hq.symm
          refine aw_if_eqB (t := 71) (pcn := 62) dX6_pay_59 rfl (by decide) (fun q8 => ?_) (fun q8 => ?_)
          · refine aw_bipush (v := -4) (pcn := 73) dX6_pay_71 rfl (by decide) ?_
            exact aw_iret dX6_pay_73 rfl ⟨_, rfl, ret5 (by unfold payT0; rw [if_neg (by simp only [q1, q2, Bool.false_eq_true, Bool.true_eq_false, reduceCtorEq, if_true, if_false, or_false, false_or, or_true, true_or, not_true_eq_false, not_false_eq_true, or_self]), if_pos (Or.inr (Or.inr (Or.inl (by have e := of_decide_eq_false q8; omega))))]) (fun _ _ _ => rfl) hW⟩
          · refine aw_alo 0 (pcn := 63) rfl dX6_pay_62 rfl rfl (rf_some _) ?_
            refine aw_ilo 3 (pcn := 64) rfl dX6_pay_63 rfl rfl ?_
            refine aw_ilo 1 (pcn := 65) rfl dX6_pay_64 rfl rfl ?_
            refine aw_Vi (pcn := 68) (c_allCarry hW hI0 hH hnh h4n _) mf_X6_allCarry mv_X6_allCarry hW.sc rfl ml_X6_342 rfl (by decide) (by decide) (by decide) (by exact Nat.le_of_ble_eq_true rfl) rfl dX6_pay_65 rfl (fun r h2 hq => ?_)
            obtain ⟨rfl, hq⟩ := hq
            obtain rfl := hq.symm
            refine aw_if_neB (t := 74) (pcn := 71) dX6_pay_68 rfl (by decide) (fun q9 => ?_) (fun q9 => ?_)
            · refine aw_alo 0 (pcn := 75) rfl dX6_pay_74 rfl rfl (rf_some _) ?_
              refine aw_aload (pcn := 77) dX6_pay_75 rfl rfl (rf_some _) ?_
              refine aw_getf (pcn := 80) fl_X6_345 dX6_pay_77 rfl ha rfl ?_
              have q16 : ¬ T0 3 0 = nI 16 := fun e => by rw [decide_eq_true e] at q7; cases q7
              have hZ : Z < 16 := by
                rcases Nat.lt_or_ge Z 16 with e | e
                · exact e
                · exact absurd (by rw [hI0.z3, show Z = 16 by omega]) q16
              have hsum : n + hN ≤ 64 := of_decide_eq_true q8
              have hbad : hbA T0 n v hN = false := by cases e : hbA T0 n v hN with | false => rfl | true => rw [e] at q9; cases q9
              have hpos : 0 < hN := by omega
              have hto := (hH.1 (hN - 1) (by omega)).2.2.ix (by decide)
              have hpy := hP hbad hpos hsum hZ
              obtain ⟨V, hV0, hV1, hV2⟩ := inRp (v := v) (b := 60000) (by decide) q1
              have hv1 : ¬ v = 0 := fun e => by
                rw [e] at hV2
                exact nI_ne0 hV0 (by omega) hV2.symm
              have hv0 : 0 ≤ v := by rw [hV2, ← nI_0, nI_leI (by omega) (by omega)]; omega
              rw [show T0 23 q = nI (ix (T0 23 (hN - 1))) by rw [show hN - 1 = q by omega]; rw [show hN - 1 = q by omega] at hto; exact hto.1]
              have hI1 := hI0.sec hZ hto.2
              obtain ⟨a0, ea0⟩ : ∃ x, x = a := ⟨_, rfl⟩
              rw [← ea0]
              refine aw_Vi (pcn := 83) (c_newSecret hW hI0 hZ (P := ix (T0 23 (hN - 1))) hto.2) mf_X6_newSecret mv_X6_newSecret hW.sc rfl ml_X6_268 rfl (by decide) (by decide) (by decide) (by exact Nat.le_of_ble_eq_true rfl) rfl dX6_pay_80 rfl (fun r h hq => ?_)
              obtain ⟨rfl, hW⟩ := hq
              refine aw_istore (pcn := 85) dX6_pay_83 rfl (by decide) ?_
              dsimp only [List.set_cons_zero, List.set_cons_succ]
              refine aw_alo 0 (pcn := 86) rfl dX6_pay_85 rfl rfl (rf_some _) ?_
              refine aw_ilo 3 (pcn := 87) rfl dX6_pay_86 rfl rfl ?_
              refine aw_ilo 2 (pcn := 88) rfl dX6_pay_87 rfl rfl ?_
              refine aw_Vi (pcn := 91) (c_firstExpiry hW hI1 (hM := hN) (show IvH (secT T0 Z (ix (T0 23 (hN - 1)))) C hN from hH) hnh h4n hpos _) mf_X6_firstExpiry mv_X6_firstExpiry hW.sc rfl ml_X6_346 rfl (by decide) (by decide) (by decide) (by exact Nat.le_of_ble_eq_true rfl) rfl dX6_pay_88 rfl (fun r h2 hq => ?_)
              obtain ⟨rfl, hq⟩ := hq
              obtain rfl := hq.symm
              rw [endE_sec]
              refine aw_istore (pcn := 93) dX6_pay_91 rfl (by decide) ?_
              dsimp only [List.set_cons_zero, List.set_cons_succ]
              refine aw_iconst (v := nI 0) (pcn := 94) dX6_pay_93 rfl (by decide) ?_
              refine aw_istore (pcn := 96) dX6_pay_94 rfl (by decide) ?_
              dsimp only [List.set_cons_zero, List.set_cons_succ]
              have H : ∀ (m k : Nat), k + m = hN → ∀ Γ1 ow1 h, (∀ k i, vld T0 k i → Γ1 k i = Γ k i) → WD Γ1 ow1 h (pyhA (secT T0 Z (ix (T0 23 (hN - 1)))) n Z v (endE T0 e (hN - 1)) k).1 Tr nh → ∀ x, AW X l cX6_pay RX6 "pay" (some .int) 9 6 none (qi fun r h' => r = (payT0 T0 n Z hN v e).1 ∧ ∃ Γ' ow', (∀ k i, vld T0 k i → Γ' k i = Γ k i) ∧ WD Γ' ow' h' (payT0 T0 n Z hN v e).2 Tr nh) (7 * (4 - k)) (31 * (4 - k)) 96 [some (.ref (Γ 0 0)), some (.int v), some (.int e), some (.int (nI hN)), some (.ref a0), some (.int (nI Z)), some (.int (pyhA (secT T0 Z (ix (T0 23 (hN - 1)))) n Z v (endE T0 e (hN - 1)) k).2), some (.int (nI k)), x] [] h := by
                intro m
                induction m with
                | zero  =>
                  intro k hk Γ1 ow1 h hG hW x
                  rw [← hG 0 0 (v0 (by decide))]
                  refine aw_iload (pcn := 98) dX6_pay_96 rfl rfl ?_
                  refine aw_ilo 3 (pcn := 99) rfl dX6_pay_98 rfl rfl ?_
                  obtain rfl : hN = k := by omega
                  refine aw_icmp_ge (t := 147) (pcn := 102) dX6_pay_99 rfl (by decide) (fun _ => ?_) (fun q => absurd (Int32.le_refl _) q)
                  refine aw_iload (pcn := 149) dX6_pay_147 rfl rfl ?_
                  exact aw_iret dX6_pay_149 rfl ⟨_, rfl, ret5 (T' := (pyhA (secT T0 Z (ix (T0 23 (hN - 1)))) n Z v (endE T0 e (hN - 1)) hN).1) (by unfold payT0; rw [if_neg (by simp only [q1, q2, Bool.false_eq_true, Bool.true_eq_false, reduceCtorEq, if_true, if_false, or_false, false_or, or_true, true_or, not_true_eq_false, not_false_eq_true, or_self]), if_neg (by rintro (x | x | x | x); omega; exact absurd x q16; omega; rw [hbad] at x; cases x)]) hG hW⟩
                | succ m ih =>
                  intro k hk Γ1 ow1 h hG hW x
                  rw [← hG 0 0 (v0 (by decide))]
                  refine aw_iload (pcn := 98) dX6_pay_96 rfl rfl ?_
                  refine aw_ilo 3 (pcn := 99) rfl dX6_pay_98 rfl rfl ?_
                  refine aw_icmp_ge (t := 147) (pcn := 102) dX6_pay_99 rfl (by decide) (fun q => absurd q (nI_ge (by omega) (by omega))) (fun _ => ?_)
                  have hk4 : k < 4 := by omega
                  have hck := (hH.1 k (by omega)).1.ix (by omega)
                  obtain ⟨hJ, hJ9, hJe⟩ := hpy k (by omega)
                  have eN := pyhA_s (secT T0 Z (ix (T0 23 (hN - 1)))) n Z v (endE T0 e (hN - 1)) k
                  have g21 : (pyhA (secT T0 Z (ix (T0 23 (hN - 1)))) n Z v (endE T0 e (hN - 1)) k).1 21 k = T0 21 k := pyhA_j _ _ _ _ _ _ _ (by decide)
                  have g22 : (pyhA (secT T0 Z (ix (T0 23 (hN - 1)))) n Z v (endE T0 e (hN - 1)) k).1 22 k = T0 22 k := pyhA_j _ _ _ _ _ _ _ (by decide)
                  have g23 : (pyhA (secT T0 Z (ix (T0 23 (hN - 1)))) n Z v (endE T0 e (hN - 1)) k).1 23 k = T0 23 k := pyhA_j _ _ _ _ _ _ _ (by decide)
                  obtain ⟨X, eX⟩ : ∃ x, x = (pyhA (secT T0 Z (ix (T0 23 (hN - 1)))) n Z v (endE T0 e (hN - 1)) k) := ⟨_, rfl⟩
                  rw [← eX] at hW hJ hJ9 hJe eN g21 g22 g23 ⊢
                  have eh : hpC X.1 k = hpC T0 k := by show ix _ = ix _; rw [g21]
                  rw [← eh] at hJ9 hJe
                  have hcC : hpC X.1 k < C := by rw [eh]; exact hck.2
                  refine aw_alo 0 (pcn := 103) rfl dX6_pay_102 rfl rfl (rf_some _) ?_
                  refine aw_iload (pcn := 105) dX6_pay_103 rfl rfl ?_
                  refine aw_Vr (pcn := 108) (c_hopAtN hW (q := k) (by omega) h4n) mf_X6_hopAt mv_X6_hopAt hW.sc rfl ml_X6_338 rfl (by decide) (by omega) (by omega) (by exact Nat.le_of_ble_eq_true rfl) rfl dX6_pay_105 rfl (fun r h2 hq => ?_)
                  obtain ⟨hq, hh⟩ := hq
                  obtain rfl := hh.symm
                  rcases hq with ⟨a, rfl, ha⟩
                  · refine aw_astore (pcn := 110) dX6_pay_108 rfl (by decide) (rf_some _) ?_
                    dsimp only [List.set_cons_zero, List.set_cons_succ]
                    refine aw_aload (pcn := 112) dX6_pay_110 rfl rfl (rf_some _) ?_
                    refine aw_ifnull (t := 141) (pcn := 115) dX6_pay_112 rfl (by decide) (rf_some _) (fun q10 => by cases q10) (fun a11 q10 => ?_)
                    clear q10 a11
                    refine aw_alo 0 (pcn := 116) rfl dX6_pay_115 rfl rfl (rf_some _) ?_
                    refine aw_aload (pcn := 118) dX6_pay_116 rfl rfl (rf_some _) ?_
                    refine aw_ilo 1 (pcn := 119) rfl dX6_pay_118 rfl rfl ?_
                    refine aw_iload (pcn := 121) dX6_pay_119 rfl rfl ?_
                    refine aw_iload (pcn := 123) dX6_pay_121 rfl rfl ?_
                    refine aw_Vv (pcn := 126) (c_payHop hW hJ (q := k) (z := Z) (n := n + k) (by omega) hcC hJ9 (by rw [g22]; exact (hH.1 k (by omega)).2.1) (by rw [g23]; exact (hH.1 k (by omega)).2.2) (by omega) hv0 hv1 hJe ha) mf_X6_payHop mv_X6_payHop hW.sc rfl ml_X6_350 rfl (by decide) (by omega) (by omega) (by exact Nat.le_of_ble_eq_true rfl) rfl dX6_pay_123 rfl (fun h2 hq => ?_)
                    obtain ⟨Γ2, ow2, hG2, hW2, hk2⟩ := hq
                    have ha := hk2.hp ha
                    have vk := hJ.vc hcC
                    rw [← hG2 7 (hpC X.1 k) (v7 vk)] at ha
                    have vk2 : hpC X.1 k < ix (pyhT X.1 (n + k) k Z v X.2 5 0) := by rw [pyhT_j _ _ _ _ _ _ _ (by decide)]; exact vk
                    refine aw_iload (pcn := 128) dX6_pay_126 rfl rfl ?_
                    refine aw_aload (pcn := 130) dX6_pay_128 rfl rfl (rf_some _) ?_
                    refine aw_getf (pcn := 133) fl_X6_354 dX6_pay_130 rfl ha rfl ?_
                    obtain ⟨g, hc, hg⟩ := hW2.ch (c := hpC X.1 k) vk2
                    refine aw_getf (pcn := 136) fl_X6_227 dX6_pay_133 rfl hc rfl ?_
                    rw [show pyhT X.1 (n + k) k Z v X.2 7 (hpC X.1 k) = X.1 7 (hpC X.1 k) from pyhT_j _ _ _ _ _ _ _ (by decide)]
                    refine aw_iconst (v := nI 1) (pcn := 137) dX6_pay_136 rfl (by decide) ?_
                    refine aw_iadd (pcn := 138) dX6_pay_137 rfl ?_
                    refine aw_isub (pcn := 139) dX6_pay_138 rfl ?_
                    refine aw_istore (pcn := 141) dX6_pay_139 rfl (by decide) ?_
                    dsimp only [List.set_cons_zero, List.set_cons_succ]
                    refine aw_iincN (pcn := 144) dX6_pay_141 rfl (by decide) rfl ?_
                    dsimp only [List.set_cons_zero, List.set_cons_succ]
                    refine aw_goto (t := 96) dX6_pay_144 (by decide) ?_
                    refine AW.le (k' := 7 * (4 - (k + 1))) (n' := 31 * (4 - (k + 1))) (by omega) (by omega) ?_
                    have hG3 : ∀ k i, vld T0 k i → Γ2 k i = Γ k i := fun k' i' q => (hG2 k' i' (vld_mono (by rw [hJ.c5, hI0.c5]) (by rw [hJ.n18, hI0.n18, ix_nI (by omega), ix_nI (by omega)]; omega) q)).trans (hG k' i' q)
                    rw [hG 0 0 (v0 (by decide))]
                    have hx := ih (k + 1) (by omega) Γ2 ow2 _ hG3 (by rw [eN]; exact hW2)
                    rw [eN] at hx
                    exact hx _
              exact H hN 0 (by omega) Γ ow h (fun _ _ _ => rfl) hW none
            · refine aw_bipush (v := -4) (pcn := 73) dX6_pay_71 rfl (by decide) ?_
              exact aw_iret dX6_pay_73 rfl ⟨_, rfl, ret5 (by unfold payT0; rw [if_neg (by simp only [q1, q2, Bool.false_eq_true, Bool.true_eq_false, reduceCtorEq, if_true, if_false, or_false, false_or, or_true, true_or, not_true_eq_false, not_false_eq_true, or_self]), if_pos (Or.inr (Or.inr (Or.inr (by cases e : hbA T0 n v hN with | true => rfl | false => rw [e] at q9; cases q9))))]) (fun _ _ _ => rfl) hW⟩
    · refine aw_bipush (v := -3) (pcn := 32) dX6_pay_30 rfl (by decide) ?_
      exact aw_iret dX6_pay_32 rfl ⟨_, rfl, ret5 (by unfold payT0; rw [if_pos (by simp only [q1, q2, Bool.false_eq_true, Bool.true_eq_false, reduceCtorEq, if_true, if_false, or_false, false_or, or_true, true_or, not_true_eq_false, not_false_eq_true, or_self])]) (fun _ _ _ => rfl) hW⟩
