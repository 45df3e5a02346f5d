/-! the class's face: paying along the route -/
theorem pyhT_e {T : TB} {n q z c K P Q : Nat} {v e : Int32} (hc : hpC T q = c) (hP : T 22 q = nI P) (hP6 : P < 6) (hQ : T 23 q = nI Q) (hQ6 : Q < 6) (hK : epT (copT T c n (ix (nwT T c n))) n = nI K) (hK3 : K < 3) : pyhT T n q z v e = up (up (lksT (copT T c n (ix (nwT T c n))) n K P Q z v e) 19 (35 * n + 2) (lksT (copT T c n (ix (nwT T c n))) n K P Q z v e 6 c)) 25 c (nI n) := by
  unfold pyhT pyh0
  rw [hc, hP, hQ, hK, ix_nI (by omega), ix_nI (by omega), ix_nI (by omega), lksT_j _ _ _ _ _ _ _ _ _ (by decide), copT_j _ _ _ _ _ (by decide)]
theorem ns_py {i : Nat} {T : TB} {C n Z hN q z : Nat} {v e : Int32} (H : Iv i T C n Z hN) (hn : n < 64) (hc : hpC T q < C) (h9 : ¬ T 9 (hpC T q) = nI 3) (hP : ix (T 22 q) < 6) (hQ : ix (T 23 q) < 6) (hz : z < Z) (hv : 0 ≤ v) (hep : ¬ epT (copT T (hpC T q) n (ix (nwT T (hpC T q) n))) n = -1) {T4 : TB} (e4 : pyhT T n q z v e = up T4 25 (hpC T q) (nI n)) (t25 : T4 25 (hpC T q) = T 25 (hpC T q)) : nsV T4 (hpC T q) n = nI n := by
  have h64 := H.n64
  have h8 := H.C8
  have HQ := H.pyh hn hc h9 hP hQ hz hv hep (e := e)
  obtain ⟨w1, w2⟩ := H.nw hc h9
  obtain ⟨p1, p2⟩ := pyhT_v T q z v e w2 hP hep
  obtain ⟨_, s0c, _⟩ := nwT_ch h64 (by omega) w1
  have p9 : pyhT T n q z v e 9 (hpC T q) = T 9 (hpC T q) := pyhT_j _ _ _ _ _ _ _ (by decide)
  have g25 := ((H.ch hc).2.2.2.2.2.2.2.1 h9).1
  generalize hpC T q = c at *
  rw [e4] at HQ p1 p2 p9
  have q9 : ¬ (up T4 25 c (nI n)) 9 c = nI 3 := by rw [p9]; exact h9
  have q25 := ((HQ.ch hc).2.2.2.2.2.2.2.1 q9).1
  rw [up_s] at q25
  obtain ⟨_, _, hcn⟩ := nwT_ch (n := n + 1) (by omega) hn q25.symm
  have r : ∀ s, s < n + 1 → T4 19 (35 * s + 0) = nI c → T4 19 (35 * s + 1) = rkT (up T4 25 c (nI n)) c s := fun s hs hsc => by
    obtain ⟨d, d1, d2, d3, _⟩ := HQ.sr hs
    rw [up_j _ _ _ _ (by decide), hsc, nI_eq (by omega) (by omega)] at d2
    rw [up_j _ _ _ _ (by decide)] at d3
    subst d2; exact d3
  have y0 : T4 19 (35 * ix (nwT T c n) + 0) = nI c := by
    have := p1 (35 * ix (nwT T c n) + 0) (by omega)
    rw [up_j _ _ _ _ (by decide)] at this
    rw [this]; exact s0c
  have yn : T4 19 (35 * n + 0) = nI c := by rw [up_j _ _ _ _ (by decide)] at p2; exact p2
  unfold nsV
  rw [t25, g25, w1, ix_nI (by omega), r _ (by omega) y0, r n (by omega) yn]
  exact if_pos ⟨hcn, rk_lt w2 (by omega) (by rw [up_j _ _ _ _ (by decide)]; exact y0)⟩
set_option maxHeartbeats 1600000 in
set_option maxRecDepth 20000 in
theorem c_payHop {X : XG} {l : Launch} {Γ : NM} {ow : Nat → Nat × Nat} {h : Hp} {T Tr : TB} {nh : Nat} (hW : WD Γ ow h T Tr nh) {i C n Z hN : Nat} (hI : Iv i T C n Z hN) {q z a : Nat} {v e : Int32} (hn64 : n < 64) (hcC : hpC T q < C) (h9 : ¬ T 9 (hpC T q) = nI 3) (h22 : okI (T 22 q) 6) (h23 : okI (T 23 q) 6) (hz : z < Z) (hv0 : 0 ≤ v) (hv1 : ¬ v = 0) (hep : ¬ epT (copT T (hpC T q) n (ix (nwT T (hpC T q) n))) n = -1) (ha : h a = some (ob 2 [.ref (Γ 7 (hpC T q)), .int (T 22 q), .int (T 23 q)])) : AM X l yX6_payHop cX6_payHop 6 (none) 5 7 31 [.ref (Γ 0 0), .ref a, .int v, .int (nI z), .int e] h (qv fun h' => ∃ Γ' ow', (∀ k i, vld T k i → Γ' k i = Γ k i) ∧ WD Γ' ow' h' (pyhT T n q z v e) Tr nh) := by
  refine AM.of (by decide +kernel) (by simp [Value.category]) (Nat.le_of_ble_eq_true rfl) ?_
  show AW X l cX6_payHop RX6 "payHop" (none) 6 5 none _ 7 31 0 [some (.ref (Γ 0 0)), some (.ref a), some (.int v), some (.int (nI z)), some (.int e), none] [] h
  have hK : Kp h h := Kp.rfl
  have h64 := hI.n64
  have h8 := hI.C8
  have h16 := hI.Z16
  have h4 := hI.h4
  have hc8' : hpC T q < 8 := by omega
  have hcX := hcC
  have h9X := h9
  have hepX := hep
  obtain ⟨P, hP, h22⟩ := h22
  obtain ⟨Q, hQ, h23⟩ := h23
  have hPX : ix (T 22 q) < 6 := by rw [h22, ix_nI (by omega)]; exact hP
  have hQX : ix (T 23 q) < 6 := by rw [h23, ix_nI (by omega)]; exact hQ
  obtain ⟨c, ec⟩ : ∃ c, hpC T q = c := ⟨_, rfl⟩
  rw [ec, h22, h23] at ha
  rw [ec] at hcC h9 hep
  have hc8 : c < 8 := by omega
  have vc := hI.vc hcC
  obtain ⟨w1, w2⟩ := hI.nw hcC h9
  have g25 := ((hI.ch hcC).2.2.2.2.2.2.2.1 h9).1
  obtain ⟨K, hK3, hep⟩ := ep_nI hep
  refine aw_alo 0 (pcn := 1) rfl dX6_payHop_0 rfl rfl (rf_some _) ?_
  refine aw_alo 1 (pcn := 2) rfl dX6_payHop_1 rfl rfl (rf_some _) ?_
  refine aw_getf (pcn := 5) fl_X6_354 dX6_payHop_2 rfl ha rfl ?_
  refine aw_Vr (pcn := 8) (c_newNewest hW hI hcC hn64 h9) mf_X6_newStateAsNewest mv_X6_newStateAsNewest hW.sc rfl ml_X6_100 rfl (by decide) (by decide) (by decide) (by exact Nat.le_of_ble_eq_true rfl) rfl dX6_payHop_5 rfl (fun r h2 hq => ?_)
  obtain ⟨Γ', ow', hG, rfl, hW, hk⟩ := hq
  have hK := hK.trans hk
  have ha := hk.hp ha
  rw [← hG 7 c (v7 vc)] at ha
  have hI2 := hI.cop hn64 hcC h9
  obtain ⟨hc0, _, _, _, _, _, _, _, c18, _, cj⟩ := copT_v T c w2
  rw [← hG 0 0 (v0 (by decide))]
  have vs := hI2.vs (show n < n + 1 by omega)
  have vc := hI2.vc hcC
  have eT := pyhT_e (T := T) (n := n) (q := q) (z := z) (v := v) (e := e) ec h22 hP h23 hQ hep hK3
  have e25 : copT T c n (ix (nwT T c n)) 25 c = T 25 c := cj 25 c (by decide) (by omega) (by omega)
  obtain ⟨T2, eT2⟩ : ∃ x, x = copT T c n (ix (nwT T c n)) := ⟨_, rfl⟩
  rw [← eT2] at hW hI2 hc0 c18 hep vs vc eT e25
  refine aw_astore (pcn := 10) dX6_payHop_8 rfl (by decide) (rf_some _) ?_
  dsimp only [List.set_cons_zero, List.set_cons_succ]
  refine aw_aload (pcn := 12) dX6_payHop_10 rfl rfl (rf_some _) ?_
  refine aw_new 5 (pcn := 15) nw_X6_144 rfl dX6_payHop_12 rfl (by decide) (by decide) (fun a2 za => ?_)
  have hna : a ≠ a2 := fun e => by rw [e, za] at ha; cases ha
  have ha2 : (hup h2 a2 (ob 3 [.int 0, .int 0, .int 0, .int 0, .int 0])) a = some (ob 2 [.ref (Γ' 7 c), .int (nI P), .int (nI Q)]) := by rw [hup_n _ _ hna]; exact ha
  refine aw_dup (pcn := 16) dX6_payHop_15 rfl rfl ?_
  refine aw_alo 1 (pcn := 17) rfl dX6_payHop_16 rfl rfl (rf_some _) ?_
  refine aw_getf (pcn := 20) fl_X6_358 dX6_payHop_17 rfl ha2 rfl ?_
  refine aw_alo 1 (pcn := 21) rfl dX6_payHop_20 rfl rfl (rf_some _) ?_
  refine aw_getf (pcn := 24) fl_X6_345 dX6_payHop_21 rfl ha2 rfl ?_
  refine aw_ilo 2 (pcn := 25) rfl dX6_payHop_24 rfl rfl ?_
  refine aw_ilo 3 (pcn := 26) rfl dX6_payHop_25 rfl rfl ?_
  refine aw_iload (pcn := 28) dX6_payHop_26 rfl rfl ?_
  refine aw_Iv (rty := none) (pcn := 31) (c_Lock (hup_s _ _ _) (nI P) (nI Q) v (nI z) e) mf_X3_init mv_X3_init rfl ml_X6_146 rfl (by decide) (by decide) (by decide) (by exact Nat.le_of_ble_eq_true rfl) rfl dX6_payHop_28 rfl (fun h3 hq => ?_)
  rw [hup_hup] at hq
  have hK := hK.trans (Kp.new (c := ob 3 [.int (nI P), .int (nI Q), .int v, .int (nI z), .int e]) za)
  rw [← hq] at hK
  have hW := hW.made (c := ob 3 [.int (nI P), .int (nI Q), .int v, .int (nI z), .int e]) za
  rw [← hq] at hW
  have hlo : h3 a2 = some (ob 3 [.int (nI P), .int (nI Q), .int v, .int (nI z), .int e]) := by rw [hq]; exact hup_s _ _ _
  have ha : h3 a = some (ob 2 [.ref (Γ' 7 c), .int (nI P), .int (nI Q)]) := by rw [hq, hup_n _ _ hna]; exact ha
  obtain ⟨gs, hs, hgs⟩ := hW.st (s := n) vs hc8 hc0
  refine aw_Vi (pcn := 34) (c_addLock hW hI2 (S := n) (by omega) hcC hc0 hK3 hP hep hv1 hlo) mf_X4_addLock mv_X4_addLock hs rfl ml_X6_149 rfl (by decide) (by decide) (by decide) (by exact Nat.le_of_ble_eq_true rfl) rfl dX6_payHop_31 rfl (fun r h hq => ?_)
  obtain ⟨rfl, hW, hk⟩ := hq
  have hK := hK.trans hk
  have hc0 : (lksT T2 n K P Q z v e) 19 (35 * n + 0) = nI c := by rw [lksT_eq, lsU_o (by omega), up_i _ _ _ (by omega)]; exact hc0
  have ha := hk.hp ha
  have vs : n < ix ((lksT T2 n K P Q z v e) 18 0) := vs
  have vc : c < ix ((lksT T2 n K P Q z v e) 5 0) := vc
  have e25 : (lksT T2 n K P Q z v e) 25 c = T 25 c := e25
  have v18 : ix ((lksT T2 n K P Q z v e) 18 0) = n + 1 := by rw [show (lksT T2 n K P Q z v e) 18 0 = T2 18 0 from rfl, c18, ix_nI (by omega)]
  obtain ⟨T3, eT3⟩ : ∃ x, x = lksT T2 n K P Q z v e := ⟨_, rfl⟩
  rw [← eT3] at hW hc0 vs vc eT e25 v18
  refine aw_pop (pcn := 35) dX6_payHop_34 rfl rfl ?_
  refine aw_aload (pcn := 37) dX6_payHop_35 rfl rfl (rf_some _) ?_
  refine aw_alo 1 (pcn := 38) rfl dX6_payHop_37 rfl rfl (rf_some _) ?_
  refine aw_getf (pcn := 41) fl_X6_354 dX6_payHop_38 rfl ha rfl ?_
  obtain ⟨g, hc, hg⟩ := hW.ch (c := c) vc
  refine aw_getf (pcn := 44) fl_X6_218 dX6_payHop_41 rfl hc rfl ?_
  obtain ⟨gs, hs, hgs⟩ := hW.st (s := n) vs hc8 hc0
  refine aw_putS (pcn := 47) hW vs hs fp_X6_83 (by decide) (VF.i _) (ss_7 _ _ _ _ _ _) (hW.stW vs hc8 hc0 hgs (j := 2) (by decide)) dX6_payHop_44 rfl (fun h hW hk => ?_)
  have hK := hK.trans hk
  have ha := hk.hp ha
  refine aw_alo 1 (pcn := 48) rfl dX6_payHop_47 rfl rfl (rf_some _) ?_
  refine aw_getf (pcn := 51) fl_X6_354 dX6_payHop_48 rfl ha rfl ?_
  refine aw_aload (pcn := 53) dX6_payHop_51 rfl rfl (rf_some _) ?_
  have hnsv := ns_py hI hn64 hcX h9X hPX hQX hz hv0 hepX (by rw [ec]; exact eT) (by rw [ec, up_j _ _ _ _ (by decide)]; exact e25)
  rw [ec] at hnsv
  obtain ⟨g, hc, hg⟩ := hW.ch (c := c) vc
  refine aw_Vv (pcn := 56) (c_noteSigned hW (S := n) (c := c) (s0 := ix (nwT T c n)) hn64 vs hc8 vc (by rw [up_i _ _ _ (by omega)]; exact hc0) (by omega) (show _ < ix (T3 18 0) by omega) (by rw [up_j _ _ _ _ (by decide), e25, g25, ← w1])) mf_X0_noteSigned mv_X0_noteSigned hc rfl ml_X6_199 rfl (by decide) (by decide) (by decide) (by exact Nat.le_of_ble_eq_true rfl) rfl dX6_payHop_53 rfl (fun h hW => ?_)
  exact aw_ret dX6_payHop_56 rfl ⟨rfl, Γ', ow', hG, hW.eq (by rw [eT, hnsv])⟩
