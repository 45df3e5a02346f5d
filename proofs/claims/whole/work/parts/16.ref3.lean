/-! the reference's writing helpers -/
theorem inR_nI {v : Int32} {b : Nat} (hb : b < 2 ^ 31) (h : inR v (nI 0) (nI b) = true) : ∃ K, K ≤ b ∧ v = nI K := by
  simp only [inR, Bool.and_eq_true, decide_eq_true_eq] at h
  exact nI_of2 (M := nI b) (nI_toInt hb) (by rw [← nI_0]; exact Int32.not_lt.mpr h.1) h.2
theorem inR_lt {v : Int32} {n : Nat} (hn : n < 2 ^ 31) (h : inR v (nI 0) (nI n - nI 1) = true) : ∃ K, K < n ∧ v = nI K := by
  cases n with
  | zero =>
    simp only [inR, Bool.and_eq_true, decide_eq_true_eq] at h
    exact absurd (Int32.le_trans h.1 h.2) (by decide)
  | succ m =>
    rw [pk_sub (by omega)] at h
    obtain ⟨K, h1, h2⟩ := inR_nI (by omega) h
    exact ⟨K, by omega, h2⟩
theorem payT_j (T : TB) (c p : Nat) (v : Int32) {j : Nat} (i : Nat) (h0 : j ≠ 0) (h8 : j ≠ 8) : payT T c p v j i = T j i := by
  unfold payT
  rw [up_j _ _ _ _ h8, up_j _ _ _ _ h0]
theorem eShT_j (T : TB) (c s n : Nat) {j : Nat} (i : Nat) (h0 : j ≠ 0) (h8 : j ≠ 8) : eShT T c s n j i = T j i := by
  induction n with
  | zero => rfl
  | succ n ih => rw [eShT, payT_j _ _ _ _ _ h0 h8, ih]
theorem paysT_j (T : TB) (c k p b : Nat) {j : Nat} (i : Nat) (h0 : j ≠ 0) (h8 : j ≠ 8) (h12 : j ≠ 12) : paysT T c k p b j i = T j i := by
  unfold paysT
  rw [up_j _ _ _ _ h12, payT_j _ _ _ _ _ h0 h8]
theorem eLkT_j (T : TB) (c s k : Nat) {j : Nat} (i : Nat) (h0 : j ≠ 0) (h8 : j ≠ 8) (h12 : j ≠ 12) : eLkT T c s k j i = T j i := by
  unfold eLkT
  split
  · rfl
  · split
    · rw [paysT_j _ _ _ _ _ _ h0 h8 h12, up_j _ _ _ _ h12]
    · rw [up_j _ _ _ _ h12]
set_option maxHeartbeats 8000000 in
set_option maxRecDepth 20000 in
theorem r_isLock {X : XG} {l : Launch} {Γ : NM} {ow : Nat → Nat × Nat} {h : Hp} {T Tr : TB} {nh : Nat} (hW : WD Γ ow h T Tr nh) {s : Int32} {n : Nat} (hn : Tr 18 0 = nI n) (hn64 : n ≤ 64) (p : Int32) : AM X l yX7_isLock cX7_isLock 3 (some .boolean) 2 0 0 [.ref (Γ 14 0), .int s, .int p] h (qi fun r h' => r = bI (isST Tr s && isLT Tr (ix s) p) ∧ h' = h) := by
  refine AM.of (by decide +kernel) (by simp [Value.category]) (Nat.le_of_ble_eq_true rfl) ?_
  show AW X l cX7_isLock RX7 "isLock" (some .boolean) 3 2 none _ 0 0 0 [some (.ref (Γ 14 0)), some (.int s), some (.int p)] [] h
  refine aw_alo 0 (pcn := 1) rfl dX7_isLock_0 rfl rfl (rf_some _) ?_
  refine aw_ilo 1 (pcn := 2) rfl dX7_isLock_1 rfl rfl ?_
  refine aw_Vi (pcn := 5) (r_isState hW _) mf_X7_isState mv_X7_isState hW.mo rfl ml_X7_83 rfl (by decide) (by decide) (by decide) (by exact Nat.le_of_ble_eq_true rfl) rfl dX7_isLock_2 rfl (fun r h2 hq => ?_)
  obtain ⟨rfl, hq⟩ := hq
  obtain rfl := hq.symm
  refine aw_if_eqB (t := 36) (pcn := 8) dX7_isLock_5 rfl (by decide) (fun q1 => ?_) (fun q1 => ?_)
  · refine aw_iconst (v := nI 0) (pcn := 37) dX7_isLock_36 rfl (by decide) ?_
    exact aw_zret dX7_isLock_37 rfl (by decide) ⟨_, rfl, ⟨by first | (have e1 := nI_clamp (n := S) (by omega); have e2 := nI_clamp (n := K) (by omega); simp only [isST, isLT, ix, e1, e2]; simp_all [bI, nI_one, nI_0]; done) | (simp only [isST, isLT]; simp_all [bI, nI_one, nI_0]; done), rfl⟩⟩
  · obtain ⟨S, hS, rfl⟩ := inR_lt (n := n) (by omega) (by rw [← hn]; exact q1)
    refine aw_ilo 2 (pcn := 9) rfl dX7_isLock_8 rfl rfl ?_
    refine aw_iconst (v := nI 0) (pcn := 10) dX7_isLock_9 rfl (by decide) ?_
    refine aw_iconst (v := nI 2) (pcn := 11) dX7_isLock_10 rfl (by decide) ?_
    refine aw_Si (pcn := 14) (r_isIn _ _ _) mf_X7_isIn mv_X7_isIn ml_X7_64 rfl (by decide) (by decide) (by decide) (by exact Nat.le_of_ble_eq_true rfl) rfl dX7_isLock_11 rfl (fun r h2 hq => ?_)
    obtain ⟨rfl, hq⟩ := hq
    obtain rfl := hq.symm
    refine aw_if_eqB (t := 36) (pcn := 17) dX7_isLock_14 rfl (by decide) (fun q2 => ?_) (fun q2 => ?_)
    · refine aw_iconst (v := nI 0) (pcn := 37) dX7_isLock_36 rfl (by decide) ?_
      exact aw_zret dX7_isLock_37 rfl (by decide) ⟨_, rfl, ⟨by first | (have e1 := nI_clamp (n := S) (by omega); have e2 := nI_clamp (n := K) (by omega); simp only [isST, isLT, ix, e1, e2]; simp_all [bI, nI_one, nI_0]; done) | (simp only [isST, isLT]; simp_all [bI, nI_one, nI_0]; done), rfl⟩⟩
    · obtain ⟨K, hK, rfl⟩ := inR_nI (by omega) q2
      refine aw_alo 0 (pcn := 18) rfl dX7_isLock_17 rfl rfl (rf_some _) ?_
      refine aw_getf (pcn := 21) fl_X7_52 dX7_isLock_18 rfl hW.mo rfl ?_
      refine aw_ilo 1 (pcn := 22) rfl dX7_isLock_21 rfl rfl ?_
      refine aw_ilo 2 (pcn := 23) rfl dX7_isLock_22 rfl rfl ?_
      refine aw_Si (pcn := 26) (r_lockAt _ _) mf_X7_lockAt mv_X7_lockAt ml_X7_93 rfl (by decide) (by decide) (by decide) (by exact Nat.le_of_ble_eq_true rfl) rfl dX7_isLock_23 rfl (fun r h2 hq => ?_)
      obtain ⟨rfl, hq⟩ := hq
      obtain rfl := hq.symm
      refine aw_iconst (v := nI 0) (pcn := 27) dX7_isLock_26 rfl (by decide) ?_
      refine aw_iaddN (pcn := 28) dX7_isLock_27 rfl ?_
      refine aw_ialdM (j := 19) (pcn := 29) hW dX7_isLock_28 rfl (show _ < 2240 by omega) ?_
      refine aw_if_le (t := 36) (pcn := 32) dX7_isLock_29 rfl (by decide) (fun q3 => ?_) (fun q3 => ?_)
      · refine aw_iconst (v := nI 0) (pcn := 37) dX7_isLock_36 rfl (by decide) ?_
        exact aw_zret dX7_isLock_37 rfl (by decide) ⟨_, rfl, ⟨by first | (have e1 := nI_clamp (n := S) (by omega); have e2 := nI_clamp (n := K) (by omega); simp only [isST, isLT, ix, e1, e2]; simp_all [bI, nI_one, nI_0]; done) | (simp only [isST, isLT]; simp_all [bI, nI_one, nI_0]; done), rfl⟩⟩
      · refine aw_iconst (v := nI 1) (pcn := 33) dX7_isLock_32 rfl (by decide) ?_
        refine aw_goto (t := 37) dX7_isLock_33 (by decide) ?_
        exact aw_zret dX7_isLock_37 rfl (by decide) ⟨_, rfl, ⟨by first | (have e1 := nI_clamp (n := S) (by omega); have e2 := nI_clamp (n := K) (by omega); simp only [isST, isLT, ix, e1, e2]; simp_all [bI, nI_one, nI_0]; done) | (simp only [isST, isLT]; simp_all [bI, nI_one, nI_0]; done), rfl⟩⟩

set_option maxHeartbeats 8000000 in
set_option maxRecDepth 20000 in
theorem r_pays {X : XG} {l : Launch} {Γ : NM} {ow : Nat → Nat × Nat} {h : Hp} {T Tr : TB} {nh : Nat} (hW : WD Γ ow h T Tr nh) {c b K P0 : Nat} (hc8 : c < 8) (hb : Tr 10 c = nI b) (hb64 : b < 64) (hK : K < 3) (hP : P0 < 6) : AM X l yX7_pays cX7_pays 5 (none) 1 0 0 [.ref (Γ 14 0), .int (nI c), .int (nI K), .int (nI P0)] h (qv fun h' => WD Γ ow h' T (paysT Tr c K P0 b) nh) := by
  refine AM.of (by decide +kernel) (by simp [Value.category]) (Nat.le_of_ble_eq_true rfl) ?_
  show AW X l cX7_pays RX7 "pays" (none) 5 1 none _ 0 0 0 [some (.ref (Γ 14 0)), some (.int (nI c)), some (.int (nI K)), some (.int (nI P0)), none] [] h
  refine aw_alo 0 (pcn := 1) rfl dX7_pays_0 rfl rfl (rf_some _) ?_
  refine aw_getf (pcn := 4) fl_X7_52 dX7_pays_1 rfl hW.mo rfl ?_
  refine aw_alo 0 (pcn := 5) rfl dX7_pays_4 rfl rfl (rf_some _) ?_
  refine aw_getf (pcn := 8) fl_X7_28 dX7_pays_5 rfl hW.mo rfl ?_
  refine aw_ilo 1 (pcn := 9) rfl dX7_pays_8 rfl rfl ?_
  refine aw_ialdM (j := 10) (pcn := 10) hW dX7_pays_9 rfl (show _ < 8 by omega) ?_
  rw [hb]
  refine aw_ilo 2 (pcn := 11) rfl dX7_pays_10 rfl rfl ?_
  refine aw_Si (pcn := 14) (r_lockAt _ _) mf_X7_lockAt mv_X7_lockAt ml_X7_93 rfl (by decide) (by decide) (by decide) (by exact Nat.le_of_ble_eq_true rfl) rfl dX7_pays_11 rfl (fun r h2 hq => ?_)
  obtain ⟨rfl, hq⟩ := hq
  obtain rfl := hq.symm
  refine aw_iconst (v := nI 0) (pcn := 15) dX7_pays_14 rfl (by decide) ?_
  refine aw_iaddN (pcn := 16) dX7_pays_15 rfl ?_
  refine aw_ialdM (j := 19) (pcn := 17) hW dX7_pays_16 rfl (show _ < 2240 by omega) ?_
  refine aw_istore (pcn := 19) dX7_pays_17 rfl (by decide) ?_
  dsimp only [List.set_cons_zero, List.set_cons_succ]
  refine aw_alo 0 (pcn := 20) rfl dX7_pays_19 rfl rfl (rf_some _) ?_
  refine aw_getf (pcn := 23) fl_X7_7 dX7_pays_20 rfl hW.mo rfl ?_
  refine aw_ilo 3 (pcn := 24) rfl dX7_pays_23 rfl rfl ?_
  refine aw_dup2 (pcn := 25) dX7_pays_24 rfl rfl rfl ?_
  refine aw_ialdM (j := 0) (pcn := 26) hW dX7_pays_25 rfl (show _ < 6 by omega) ?_
  refine aw_iload (pcn := 28) dX7_pays_26 rfl rfl ?_
  refine aw_iadd (pcn := 29) dX7_pays_28 rfl ?_
  refine aw_iastM (j := 0) (pcn := 30) hW dX7_pays_29 rfl (show _ < 6 by omega) (fun h hW => ?_)
  refine aw_alo 0 (pcn := 31) rfl dX7_pays_30 rfl rfl (rf_some _) ?_
  refine aw_getf (pcn := 34) fl_X7_22 dX7_pays_31 rfl hW.mo rfl ?_
  refine aw_ilo 1 (pcn := 35) rfl dX7_pays_34 rfl rfl ?_
  refine aw_dup2 (pcn := 36) dX7_pays_35 rfl rfl rfl ?_
  refine aw_ialdM (j := 8) (pcn := 37) hW dX7_pays_36 rfl (show _ < 8 by omega) ?_
  refine aw_iload (pcn := 39) dX7_pays_37 rfl rfl ?_
  refine aw_isub (pcn := 40) dX7_pays_39 rfl ?_
  refine aw_iastM (j := 8) (pcn := 41) hW dX7_pays_40 rfl (show _ < 8 by omega) (fun h hW => ?_)
  refine aw_alo 0 (pcn := 42) rfl dX7_pays_41 rfl rfl (rf_some _) ?_
  refine aw_getf (pcn := 45) fl_X7_34 dX7_pays_42 rfl hW.mo rfl ?_
  refine aw_ilo 1 (pcn := 46) rfl dX7_pays_45 rfl rfl ?_
  refine aw_dup2 (pcn := 47) dX7_pays_46 rfl rfl rfl ?_
  refine aw_ialdM (j := 12) (pcn := 48) hW dX7_pays_47 rfl (show _ < 8 by omega) ?_
  refine aw_iconst (v := nI 1) (pcn := 49) dX7_pays_48 rfl (by decide) ?_
  refine aw_ilo 2 (pcn := 50) rfl dX7_pays_49 rfl rfl ?_
  refine aw_ishl (pcn := 51) dX7_pays_50 rfl ?_
  refine aw_isub (pcn := 52) dX7_pays_51 rfl ?_
  refine aw_iastM (j := 12) (pcn := 53) hW dX7_pays_52 rfl (show _ < 8 by omega) (fun h hW => ?_)
  exact aw_ret dX7_pays_53 rfl ⟨rfl, hW⟩

set_option maxHeartbeats 8000000 in
set_option maxRecDepth 20000 in
theorem r_canClaim {X : XG} {l : Launch} {Γ : NM} {ow : Nat → Nat × Nat} {h : Hp} {T Tr : TB} {nh : Nat} (hW : WD Γ ow h T Tr nh) {c b K P0 Z : Nat} (hc8 : c < 8) (hb : Tr 10 c = nI b) (hb64 : b < 64) (hK : K < 3) (hz : hasB (Tr 12 c) (nI K) = true → Tr 19 (35 * b + 16 + 5 * K + 3) = nI Z ∧ Z < 16) : AM X l yX7_canClaim cX7_canClaim 5 (some .boolean) 1 0 0 [.ref (Γ 14 0), .int (nI c), .int (nI K), .int (nI P0)] h (qi fun r h' => r = bI (canT Tr c b K P0) ∧ h' = h) := by
  refine AM.of (by decide +kernel) (by simp [Value.category]) (Nat.le_of_ble_eq_true rfl) ?_
  show AW X l cX7_canClaim RX7 "canClaim" (some .boolean) 5 1 none _ 0 0 0 [some (.ref (Γ 14 0)), some (.int (nI c)), some (.int (nI K)), some (.int (nI P0)), none] [] h
  refine aw_alo 0 (pcn := 1) rfl dX7_canClaim_0 rfl rfl (rf_some _) ?_
  refine aw_getf (pcn := 4) fl_X7_28 dX7_canClaim_1 rfl hW.mo rfl ?_
  refine aw_ilo 1 (pcn := 5) rfl dX7_canClaim_4 rfl rfl ?_
  refine aw_ialdM (j := 10) (pcn := 6) hW dX7_canClaim_5 rfl (show _ < 8 by omega) ?_
  rw [hb]
  refine aw_ilo 2 (pcn := 7) rfl dX7_canClaim_6 rfl rfl ?_
  refine aw_Si (pcn := 10) (r_lockAt _ _) mf_X7_lockAt mv_X7_lockAt ml_X7_93 rfl (by decide) (by decide) (by decide) (by exact Nat.le_of_ble_eq_true rfl) rfl dX7_canClaim_7 rfl (fun r h2 hq => ?_)
  obtain ⟨rfl, hq⟩ := hq
  obtain rfl := hq.symm
  refine aw_istore (pcn := 12) dX7_canClaim_10 rfl (by decide) ?_
  dsimp only [List.set_cons_zero, List.set_cons_succ]
  refine aw_alo 0 (pcn := 13) rfl dX7_canClaim_12 rfl rfl (rf_some _) ?_
  refine aw_getf (pcn := 16) fl_X7_34 dX7_canClaim_13 rfl hW.mo rfl ?_
  refine aw_ilo 1 (pcn := 17) rfl dX7_canClaim_16 rfl rfl ?_
  refine aw_ialdM (j := 12) (pcn := 18) hW dX7_canClaim_17 rfl (show _ < 8 by omega) ?_
  refine aw_ilo 2 (pcn := 19) rfl dX7_canClaim_18 rfl rfl ?_
  refine aw_Si (pcn := 22) (r_has _ _) mf_X7_has mv_X7_has ml_X7_79 rfl (by decide) (by decide) (by decide) (by exact Nat.le_of_ble_eq_true rfl) rfl dX7_canClaim_19 rfl (fun r h2 hq => ?_)
  obtain ⟨rfl, hq⟩ := hq
  obtain rfl := hq.symm
  refine aw_if_eqB (t := 63) (pcn := 25) dX7_canClaim_22 rfl (by decide) (fun q1 => ?_) (fun q1 => ?_)
  · refine aw_iconst (v := nI 0) (pcn := 64) dX7_canClaim_63 rfl (by decide) ?_
    exact aw_zret dX7_canClaim_64 rfl (by decide) ⟨_, rfl, ⟨by first | (have e1 := nI_clamp (n := Z) (by omega); simp only [canT, ix, hz1, e1]; simp_all [bI, nI_one, nI_0]; done) | (simp only [canT]; simp_all [bI, nI_one, nI_0]; done), rfl⟩⟩
  · obtain ⟨hz1, hz2⟩ := hz q1
    refine aw_alo 0 (pcn := 26) rfl dX7_canClaim_25 rfl rfl (rf_some _) ?_
    refine aw_getf (pcn := 29) fl_X7_52 dX7_canClaim_26 rfl hW.mo rfl ?_
    refine aw_iload (pcn := 31) dX7_canClaim_29 rfl rfl ?_
    refine aw_iconst (v := nI 2) (pcn := 32) dX7_canClaim_31 rfl (by decide) ?_
    refine aw_iaddN (pcn := 33) dX7_canClaim_32 rfl ?_
    refine aw_ialdM (j := 19) (pcn := 34) hW dX7_canClaim_33 rfl (show _ < 2240 by omega) ?_
    refine aw_ilo 3 (pcn := 35) rfl dX7_canClaim_34 rfl rfl ?_
    refine aw_icmp_ne (t := 63) (pcn := 38) dX7_canClaim_35 rfl (by decide) (fun q2 => ?_) (fun q2 => ?_)
    · refine aw_iconst (v := nI 0) (pcn := 64) dX7_canClaim_63 rfl (by decide) ?_
      exact aw_zret dX7_canClaim_64 rfl (by decide) ⟨_, rfl, ⟨by first | (have e1 := nI_clamp (n := Z) (by omega); simp only [canT, ix, hz1, e1]; simp_all [bI, nI_one, nI_0]; done) | (simp only [canT]; simp_all [bI, nI_one, nI_0]; done), rfl⟩⟩
    · refine aw_alo 0 (pcn := 39) rfl dX7_canClaim_38 rfl rfl (rf_some _) ?_
      refine aw_getf (pcn := 42) fl_X7_13 dX7_canClaim_39 rfl hW.mo rfl ?_
      refine aw_alo 0 (pcn := 43) rfl dX7_canClaim_42 rfl rfl (rf_some _) ?_
      refine aw_getf (pcn := 46) fl_X7_52 dX7_canClaim_43 rfl hW.mo rfl ?_
      refine aw_iload (pcn := 48) dX7_canClaim_46 rfl rfl ?_
      refine aw_iconst (v := nI 3) (pcn := 49) dX7_canClaim_48 rfl (by decide) ?_
      refine aw_iaddN (pcn := 50) dX7_canClaim_49 rfl ?_
      refine aw_ialdM (j := 19) (pcn := 51) hW dX7_canClaim_50 rfl (show _ < 2240 by omega) ?_
      rw [hz1]
      refine aw_ialdM (j := 4) (pcn := 52) hW dX7_canClaim_51 rfl (show _ < 16 by omega) ?_
      refine aw_ilo 3 (pcn := 53) rfl dX7_canClaim_52 rfl rfl ?_
      refine aw_Si (pcn := 56) (r_has _ _) mf_X7_has mv_X7_has ml_X7_79 rfl (by decide) (by decide) (by decide) (by exact Nat.le_of_ble_eq_true rfl) rfl dX7_canClaim_53 rfl (fun r h2 hq => ?_)
      obtain ⟨rfl, hq⟩ := hq
      obtain rfl := hq.symm
      refine aw_if_eqB (t := 63) (pcn := 59) dX7_canClaim_56 rfl (by decide) (fun q3 => ?_) (fun q3 => ?_)
      · refine aw_iconst (v := nI 0) (pcn := 64) dX7_canClaim_63 rfl (by decide) ?_
        exact aw_zret dX7_canClaim_64 rfl (by decide) ⟨_, rfl, ⟨by first | (have e1 := nI_clamp (n := Z) (by omega); simp only [canT, ix, hz1, e1]; simp_all [bI, nI_one, nI_0]; done) | (simp only [canT]; simp_all [bI, nI_one, nI_0]; done), rfl⟩⟩
      · refine aw_iconst (v := nI 1) (pcn := 60) dX7_canClaim_59 rfl (by decide) ?_
        refine aw_goto (t := 64) dX7_canClaim_60 (by decide) ?_
        exact aw_zret dX7_canClaim_64 rfl (by decide) ⟨_, rfl, ⟨by first | (have e1 := nI_clamp (n := Z) (by omega); simp only [canT, ix, hz1, e1]; simp_all [bI, nI_one, nI_0]; done) | (simp only [canT]; simp_all [bI, nI_one, nI_0]; done), rfl⟩⟩

set_option maxHeartbeats 8000000 in
set_option maxRecDepth 20000 in
theorem r_claims {X : XG} {l : Launch} {Γ : NM} {ow : Nat → Nat × Nat} {h : Hp} {T Tr : TB} {nh : Nat} (hW : WD Γ ow h T Tr nh) {c b K P0 Z : Nat} (hc8 : c < 8) (hb : Tr 10 c = nI b) (hb64 : b < 64) (hK : K < 3) (hP : P0 < 6) (hz1 : Tr 19 (35 * b + 16 + 5 * K + 3) = nI Z) (hz2 : Z < 16) : AM X l yX7_claims cX7_claims 5 (some .int) 2 0 0 [.ref (Γ 14 0), .int (nI c), .int (nI K), .int (nI P0)] h (qi fun r h' => r = Tr 19 (35 * b + 16 + 5 * K + 0) ∧ WD Γ ow h' T (clmT Tr c b K P0) nh) := by
  refine AM.of (by decide +kernel) (by simp [Value.category]) (Nat.le_of_ble_eq_true rfl) ?_
  show AW X l cX7_claims RX7 "claims" (some .int) 5 2 none _ 0 0 0 [some (.ref (Γ 14 0)), some (.int (nI c)), some (.int (nI K)), some (.int (nI P0)), none] [] h
  refine aw_alo 0 (pcn := 1) rfl dX7_claims_0 rfl rfl (rf_some _) ?_
  refine aw_getf (pcn := 4) fl_X7_28 dX7_claims_1 rfl hW.mo rfl ?_
  refine aw_ilo 1 (pcn := 5) rfl dX7_claims_4 rfl rfl ?_
  refine aw_ialdM (j := 10) (pcn := 6) hW dX7_claims_5 rfl (show _ < 8 by omega) ?_
  rw [hb]
  refine aw_ilo 2 (pcn := 7) rfl dX7_claims_6 rfl rfl ?_
  refine aw_Si (pcn := 10) (r_lockAt _ _) mf_X7_lockAt mv_X7_lockAt ml_X7_93 rfl (by decide) (by decide) (by decide) (by exact Nat.le_of_ble_eq_true rfl) rfl dX7_claims_7 rfl (fun r h2 hq => ?_)
  obtain ⟨rfl, hq⟩ := hq
  obtain rfl := hq.symm
  refine aw_istore (pcn := 12) dX7_claims_10 rfl (by decide) ?_
  dsimp only [List.set_cons_zero, List.set_cons_succ]
  refine aw_alo 0 (pcn := 13) rfl dX7_claims_12 rfl rfl (rf_some _) ?_
  refine aw_getf (pcn := 16) fl_X7_13 dX7_claims_13 rfl hW.mo rfl ?_
  refine aw_alo 0 (pcn := 17) rfl dX7_claims_16 rfl rfl (rf_some _) ?_
  refine aw_getf (pcn := 20) fl_X7_52 dX7_claims_17 rfl hW.mo rfl ?_
  refine aw_iload (pcn := 22) dX7_claims_20 rfl rfl ?_
  refine aw_iconst (v := nI 3) (pcn := 23) dX7_claims_22 rfl (by decide) ?_
  refine aw_iaddN (pcn := 24) dX7_claims_23 rfl ?_
  refine aw_ialdM (j := 19) (pcn := 25) hW dX7_claims_24 rfl (show _ < 2240 by omega) ?_
  rw [hz1]
  refine aw_bipush (v := nI 63) (pcn := 27) dX7_claims_25 rfl (by decide) ?_
  refine aw_iastM (j := 4) (pcn := 28) hW dX7_claims_27 rfl (show _ < 16 by omega) (fun h hW => ?_)
  refine aw_alo 0 (pcn := 29) rfl dX7_claims_28 rfl rfl (rf_some _) ?_
  refine aw_ilo 1 (pcn := 30) rfl dX7_claims_29 rfl rfl ?_
  refine aw_ilo 2 (pcn := 31) rfl dX7_claims_30 rfl rfl ?_
  refine aw_ilo 3 (pcn := 32) rfl dX7_claims_31 rfl rfl ?_
  refine aw_Vv (pcn := 35) (r_pays hW (c := _) (b := b) (K := _) (P0 := _) (by omega) hb hb64 (by omega) (by omega)) mf_X7_pays mv_X7_pays hW.mo rfl ml_X7_106 rfl (by decide) (by decide) (by decide) (by exact Nat.le_of_ble_eq_true rfl) rfl dX7_claims_32 rfl (fun h hW => ?_)
  refine aw_alo 0 (pcn := 36) rfl dX7_claims_35 rfl rfl (rf_some _) ?_
  refine aw_getf (pcn := 39) fl_X7_52 dX7_claims_36 rfl hW.mo rfl ?_
  refine aw_iload (pcn := 41) dX7_claims_39 rfl rfl ?_
  refine aw_iconst (v := nI 0) (pcn := 42) dX7_claims_41 rfl (by decide) ?_
  refine aw_iaddN (pcn := 43) dX7_claims_42 rfl ?_
  refine aw_ialdM (j := 19) (pcn := 44) hW dX7_claims_43 rfl (show _ < 2240 by omega) ?_
  exact aw_iret dX7_claims_44 rfl ⟨_, rfl, ⟨rfl, by unfold clmT; rw [hz1, show ix (nI Z) = Z from nI_clamp (by omega)]; exact hW⟩⟩

set_option maxHeartbeats 8000000 in
set_option maxRecDepth 20000 in
theorem r_wins {X : XG} {l : Launch} {Γ : NM} {ow : Nat → Nat × Nat} {h : Hp} {T Tr : TB} {nh : Nat} (hW : WD Γ ow h T Tr nh) {c P0 : Nat} (hc8 : c < 8) (hP : P0 < 6) : AM X l yX7_wins cX7_wins 3 (none) 0 0 0 [.ref (Γ 14 0), .int (nI c), .int (nI P0)] h (qv fun h' => WD Γ ow h' T (winT Tr c P0) nh) := by
  refine AM.of (by decide +kernel) (by simp [Value.category]) (Nat.le_of_ble_eq_true rfl) ?_
  show AW X l cX7_wins RX7 "wins" (none) 3 0 none _ 0 0 0 [some (.ref (Γ 14 0)), some (.int (nI c)), some (.int (nI P0))] [] h
  refine aw_alo 0 (pcn := 1) rfl dX7_wins_0 rfl rfl (rf_some _) ?_
  refine aw_getf (pcn := 4) fl_X7_7 dX7_wins_1 rfl hW.mo rfl ?_
  refine aw_ilo 2 (pcn := 5) rfl dX7_wins_4 rfl rfl ?_
  refine aw_dup2 (pcn := 6) dX7_wins_5 rfl rfl rfl ?_
  refine aw_ialdM (j := 0) (pcn := 7) hW dX7_wins_6 rfl (show _ < 6 by omega) ?_
  refine aw_alo 0 (pcn := 8) rfl dX7_wins_7 rfl rfl (rf_some _) ?_
  refine aw_getf (pcn := 11) fl_X7_37 dX7_wins_8 rfl hW.mo rfl ?_
  refine aw_ilo 1 (pcn := 12) rfl dX7_wins_11 rfl rfl ?_
  refine aw_ialdM (j := 13) (pcn := 13) hW dX7_wins_12 rfl (show _ < 8 by omega) ?_
  refine aw_iadd (pcn := 14) dX7_wins_13 rfl ?_
  refine aw_iastM (j := 0) (pcn := 15) hW dX7_wins_14 rfl (show _ < 6 by omega) (fun h hW => ?_)
  refine aw_alo 0 (pcn := 16) rfl dX7_wins_15 rfl rfl (rf_some _) ?_
  refine aw_getf (pcn := 19) fl_X7_22 dX7_wins_16 rfl hW.mo rfl ?_
  refine aw_ilo 1 (pcn := 20) rfl dX7_wins_19 rfl rfl ?_
  refine aw_dup2 (pcn := 21) dX7_wins_20 rfl rfl rfl ?_
  refine aw_ialdM (j := 8) (pcn := 22) hW dX7_wins_21 rfl (show _ < 8 by omega) ?_
  refine aw_alo 0 (pcn := 23) rfl dX7_wins_22 rfl rfl (rf_some _) ?_
  refine aw_getf (pcn := 26) fl_X7_37 dX7_wins_23 rfl hW.mo rfl ?_
  refine aw_ilo 1 (pcn := 27) rfl dX7_wins_26 rfl rfl ?_
  refine aw_ialdM (j := 13) (pcn := 28) hW dX7_wins_27 rfl (show _ < 8 by omega) ?_
  refine aw_isub (pcn := 29) dX7_wins_28 rfl ?_
  refine aw_iastM (j := 8) (pcn := 30) hW dX7_wins_29 rfl (show _ < 8 by omega) (fun h hW => ?_)
  refine aw_alo 0 (pcn := 31) rfl dX7_wins_30 rfl rfl (rf_some _) ?_
  refine aw_getf (pcn := 34) fl_X7_37 dX7_wins_31 rfl hW.mo rfl ?_
  refine aw_ilo 1 (pcn := 35) rfl dX7_wins_34 rfl rfl ?_
  refine aw_iconst (v := nI 0) (pcn := 36) dX7_wins_35 rfl (by decide) ?_
  refine aw_iastM (j := 13) (pcn := 37) hW dX7_wins_36 rfl (show _ < 8 by omega) (fun h hW => ?_)
  refine aw_alo 0 (pcn := 38) rfl dX7_wins_37 rfl rfl (rf_some _) ?_
  refine aw_getf (pcn := 41) fl_X7_40 dX7_wins_38 rfl hW.mo rfl ?_
  refine aw_ilo 1 (pcn := 42) rfl dX7_wins_41 rfl rfl ?_
  refine aw_iconst (v := nI 0) (pcn := 43) dX7_wins_42 rfl (by decide) ?_
  refine aw_iastM (j := 14) (pcn := 44) hW dX7_wins_43 rfl (show _ < 8 by omega) (fun h hW => ?_)
  exact aw_ret dX7_wins_44 rfl ⟨rfl, hW.ghost (j := 27) (i := c) (v := 0) (by omega)⟩

set_option maxHeartbeats 8000000 in
set_option maxRecDepth 20000 in
theorem r_shows {X : XG} {l : Launch} {Γ : NM} {ow : Nat → Nat × Nat} {h : Hp} {T Tr : TB} {nh : Nat} (hW : WD Γ ow h T Tr nh) {S c b : Nat} (hS : S < 64) (hc8 : c < 8) (hc : Tr 19 (35 * S + 0) = nI c) (hb : ¬ Tr 9 c = nI 1 → Tr 10 c = nI b ∧ b < 64) : AM X l yX7_shows cX7_shows 3 (none) 1 0 0 [.ref (Γ 14 0), .int (nI S)] h (qv fun h' => WD Γ ow h' T (showsT Tr c S) nh) := by
  refine AM.of (by decide +kernel) (by simp [Value.category]) (Nat.le_of_ble_eq_true rfl) ?_
  show AW X l cX7_shows RX7 "shows" (none) 3 1 none _ 0 0 0 [some (.ref (Γ 14 0)), some (.int (nI S)), none] [] h
  refine aw_alo 0 (pcn := 1) rfl dX7_shows_0 rfl rfl (rf_some _) ?_
  refine aw_ilo 1 (pcn := 2) rfl dX7_shows_1 rfl rfl ?_
  refine aw_Vi (pcn := 5) (r_channelOf hW (S := S) hS) mf_X7_channelOf mv_X7_channelOf hW.mo rfl ml_X7_86 rfl (by decide) (by decide) (by decide) (by exact Nat.le_of_ble_eq_true rfl) rfl dX7_shows_2 rfl (fun r h2 hq => ?_)
  obtain ⟨rfl, hq⟩ := hq
  obtain rfl := hq.symm
  rw [hc]
  refine aw_ist 2 (pcn := 6) rfl dX7_shows_5 rfl (by decide) ?_
  dsimp only [List.set_cons_zero, List.set_cons_succ]
  refine aw_alo 0 (pcn := 7) rfl dX7_shows_6 rfl rfl (rf_some _) ?_
  refine aw_getf (pcn := 10) fl_X7_25 dX7_shows_7 rfl hW.mo rfl ?_
  refine aw_ilo 2 (pcn := 11) rfl dX7_shows_10 rfl rfl ?_
  refine aw_ialdM (j := 9) (pcn := 12) hW dX7_shows_11 rfl (show _ < 8 by omega) ?_
  refine aw_iconst (v := nI 1) (pcn := 13) dX7_shows_12 rfl (by decide) ?_
  refine aw_icmp_ne (t := 50) (pcn := 16) dX7_shows_13 rfl (by decide) (fun q1 => ?_) (fun q1 => ?_)
  · obtain ⟨hb1, hb2⟩ := hb q1
    refine aw_alo 0 (pcn := 51) rfl dX7_shows_50 rfl rfl (rf_some _) ?_
    refine aw_getf (pcn := 54) fl_X7_52 dX7_shows_51 rfl hW.mo rfl ?_
    refine aw_bipush (v := nI 35) (pcn := 56) dX7_shows_54 rfl (by decide) ?_
    refine aw_alo 0 (pcn := 57) rfl dX7_shows_56 rfl rfl (rf_some _) ?_
    refine aw_getf (pcn := 60) fl_X7_28 dX7_shows_57 rfl hW.mo rfl ?_
    refine aw_ilo 2 (pcn := 61) rfl dX7_shows_60 rfl rfl ?_
    refine aw_ialdM (j := 10) (pcn := 62) hW dX7_shows_61 rfl (show _ < 8 by omega) ?_
    rw [hb1]
    refine aw_imulN (pcn := 63) dX7_shows_62 rfl ?_
    refine aw_iconst (v := nI 1) (pcn := 64) dX7_shows_63 rfl (by decide) ?_
    refine aw_iaddN (pcn := 65) dX7_shows_64 rfl ?_
    refine aw_ialdM (j := 19) (pcn := 66) hW dX7_shows_65 rfl (show _ < 2240 by omega) ?_
    refine aw_alo 0 (pcn := 67) rfl dX7_shows_66 rfl rfl (rf_some _) ?_
    refine aw_getf (pcn := 70) fl_X7_52 dX7_shows_67 rfl hW.mo rfl ?_
    refine aw_bipush (v := nI 35) (pcn := 72) dX7_shows_70 rfl (by decide) ?_
    refine aw_ilo 1 (pcn := 73) rfl dX7_shows_72 rfl rfl ?_
    refine aw_imulN (pcn := 74) dX7_shows_73 rfl ?_
    refine aw_iconst (v := nI 1) (pcn := 75) dX7_shows_74 rfl (by decide) ?_
    refine aw_iaddN (pcn := 76) dX7_shows_75 rfl ?_
    refine aw_ialdM (j := 19) (pcn := 77) hW dX7_shows_76 rfl (show _ < 2240 by omega) ?_
    refine aw_icmp_ge (t := 87) (pcn := 80) dX7_shows_77 rfl (by decide) (fun q2 => ?_) (fun q2 => ?_)
    · exact aw_ret dX7_shows_87 rfl ⟨rfl, (by first | (unfold showsT; rw [if_pos (by assumption)]; exact hW.ghost (j := 26) (i := c) (v := Tr 2 0 + Tr 7 c) (by omega)) | (unfold showsT; rw [if_neg (by assumption), hb1, show ix (nI b) = b from nI_clamp (by omega), if_pos (Int32.not_le.mp (by assumption))]; exact hW) | (unfold showsT; rw [if_neg (by assumption), hb1, show ix (nI b) = b from nI_clamp (by omega), if_neg (Int32.not_lt.mpr (by assumption))]; exact hW))⟩
    · refine aw_alo 0 (pcn := 81) rfl dX7_shows_80 rfl rfl (rf_some _) ?_
      refine aw_getf (pcn := 84) fl_X7_28 dX7_shows_81 rfl hW.mo rfl ?_
      refine aw_ilo 2 (pcn := 85) rfl dX7_shows_84 rfl rfl ?_
      refine aw_ilo 1 (pcn := 86) rfl dX7_shows_85 rfl rfl ?_
      refine aw_iastM (j := 10) (pcn := 87) hW dX7_shows_86 rfl (show _ < 8 by omega) (fun h hW => ?_)
      exact aw_ret dX7_shows_87 rfl ⟨rfl, (by first | (unfold showsT; rw [if_pos (by assumption)]; exact hW.ghost (j := 26) (i := c) (v := Tr 2 0 + Tr 7 c) (by omega)) | (unfold showsT; rw [if_neg (by assumption), hb1, show ix (nI b) = b from nI_clamp (by omega), if_pos (Int32.not_le.mp (by assumption))]; exact hW) | (unfold showsT; rw [if_neg (by assumption), hb1, show ix (nI b) = b from nI_clamp (by omega), if_neg (Int32.not_lt.mpr (by assumption))]; exact hW))⟩
  · refine aw_alo 0 (pcn := 17) rfl dX7_shows_16 rfl rfl (rf_some _) ?_
    refine aw_getf (pcn := 20) fl_X7_25 dX7_shows_17 rfl hW.mo rfl ?_
    refine aw_ilo 2 (pcn := 21) rfl dX7_shows_20 rfl rfl ?_
    refine aw_iconst (v := nI 2) (pcn := 22) dX7_shows_21 rfl (by decide) ?_
    refine aw_iastM (j := 9) (pcn := 23) hW dX7_shows_22 rfl (show _ < 8 by omega) (fun h hW => ?_)
    refine aw_alo 0 (pcn := 24) rfl dX7_shows_23 rfl rfl (rf_some _) ?_
    refine aw_getf (pcn := 27) fl_X7_28 dX7_shows_24 rfl hW.mo rfl ?_
    refine aw_ilo 2 (pcn := 28) rfl dX7_shows_27 rfl rfl ?_
    refine aw_ilo 1 (pcn := 29) rfl dX7_shows_28 rfl rfl ?_
    refine aw_iastM (j := 10) (pcn := 30) hW dX7_shows_29 rfl (show _ < 8 by omega) (fun h hW => ?_)
    refine aw_alo 0 (pcn := 31) rfl dX7_shows_30 rfl rfl (rf_some _) ?_
    refine aw_getf (pcn := 34) fl_X7_31 dX7_shows_31 rfl hW.mo rfl ?_
    refine aw_ilo 2 (pcn := 35) rfl dX7_shows_34 rfl rfl ?_
    refine aw_alo 0 (pcn := 36) rfl dX7_shows_35 rfl rfl (rf_some _) ?_
    refine aw_getf (pcn := 39) fl_X7_103 dX7_shows_36 rfl hW.mo rfl ?_
    refine aw_alo 0 (pcn := 40) rfl dX7_shows_39 rfl rfl (rf_some _) ?_
    refine aw_getf (pcn := 43) fl_X7_19 dX7_shows_40 rfl hW.mo rfl ?_
    refine aw_ilo 2 (pcn := 44) rfl dX7_shows_43 rfl rfl ?_
    refine aw_ialdM (j := 7) (pcn := 45) hW dX7_shows_44 rfl (show _ < 8 by omega) ?_
    refine aw_iadd (pcn := 46) dX7_shows_45 rfl ?_
    refine aw_iastM (j := 11) (pcn := 47) hW dX7_shows_46 rfl (show _ < 8 by omega) (fun h hW => ?_)
    refine aw_goto (t := 87) dX7_shows_47 (by decide) ?_
    exact aw_ret dX7_shows_87 rfl ⟨rfl, (by first | (unfold showsT; rw [if_pos (by assumption)]; exact hW.ghost (j := 26) (i := c) (v := Tr 2 0 + Tr 7 c) (by omega)) | (unfold showsT; rw [if_neg (by assumption), hb1, show ix (nI b) = b from nI_clamp (by omega), if_pos (Int32.not_le.mp (by assumption))]; exact hW) | (unfold showsT; rw [if_neg (by assumption), hb1, show ix (nI b) = b from nI_clamp (by omega), if_neg (Int32.not_lt.mpr (by assumption))]; exact hW))⟩

set_option maxHeartbeats 8000000 in
set_option maxRecDepth 20000 in
theorem r_steps {X : XG} {l : Launch} {Γ : NM} {ow : Nat → Nat × Nat} {h : Hp} {T Tr : TB} {nh : Nat} (hW : WD Γ ow h T Tr nh) {c P0 : Nat} (hc8 : c < 8) (hP1 : Tr 15 c = nI P0) (hP : P0 < 6) (t : Int32) : AM X l yX7_steps cX7_steps 4 (some .int) 1 0 0 [.ref (Γ 14 0), .int (nI c), .int t] h (qi fun r h' => r = (stpT Tr c t) 14 c ∧ WD Γ ow h' T (stpT Tr c t) nh) := by
  refine AM.of (by decide +kernel) (by simp [Value.category]) (Nat.le_of_ble_eq_true rfl) ?_
  show AW X l cX7_steps RX7 "steps" (some .int) 4 1 none _ 0 0 0 [some (.ref (Γ 14 0)), some (.int (nI c)), some (.int t), none] [] h
  refine aw_alo 0 (pcn := 1) rfl dX7_steps_0 rfl rfl (rf_some _) ?_
  refine aw_getf (pcn := 4) fl_X7_40 dX7_steps_1 rfl hW.mo rfl ?_
  refine aw_ilo 1 (pcn := 5) rfl dX7_steps_4 rfl rfl ?_
  refine aw_dup2 (pcn := 6) dX7_steps_5 rfl rfl rfl ?_
  refine aw_ialdM (j := 14) (pcn := 7) hW dX7_steps_6 rfl (show _ < 8 by omega) ?_
  refine aw_ilo 2 (pcn := 8) rfl dX7_steps_7 rfl rfl ?_
  refine aw_isub (pcn := 9) dX7_steps_8 rfl ?_
  refine aw_iastM (j := 14) (pcn := 10) hW dX7_steps_9 rfl (show _ < 8 by omega) (fun h hW => ?_)
  refine aw_alo 0 (pcn := 11) rfl dX7_steps_10 rfl rfl (rf_some _) ?_
  refine aw_getf (pcn := 14) fl_X7_40 dX7_steps_11 rfl hW.mo rfl ?_
  refine aw_ilo 1 (pcn := 15) rfl dX7_steps_14 rfl rfl ?_
  refine aw_ialdM (j := 14) (pcn := 16) hW dX7_steps_15 rfl (show _ < 8 by omega) ?_
  refine aw_if_ne (t := 33) (pcn := 19) dX7_steps_16 rfl (by decide) (fun q1 => ?_) (fun q1 => ?_)
  · have q0 : ¬ Tr 14 c - t = 0 := by simpa only [up_s] using q1
    refine aw_alo 0 (pcn := 34) rfl dX7_steps_33 rfl rfl (rf_some _) ?_
    refine aw_getf (pcn := 37) fl_X7_43 dX7_steps_34 rfl hW.mo rfl ?_
    refine aw_ilo 1 (pcn := 38) rfl dX7_steps_37 rfl rfl ?_
    refine aw_ialdM (j := 15) (pcn := 39) hW dX7_steps_38 rfl (show _ < 8 by omega) ?_
    refine aw_ist 3 (pcn := 40) rfl dX7_steps_39 rfl (by decide) ?_
    dsimp only [List.set_cons_zero, List.set_cons_succ]
    refine aw_alo 0 (pcn := 41) rfl dX7_steps_40 rfl rfl (rf_some _) ?_
    refine aw_getf (pcn := 44) fl_X7_43 dX7_steps_41 rfl hW.mo rfl ?_
    refine aw_ilo 1 (pcn := 45) rfl dX7_steps_44 rfl rfl ?_
    refine aw_alo 0 (pcn := 46) rfl dX7_steps_45 rfl rfl (rf_some _) ?_
    refine aw_getf (pcn := 49) fl_X7_46 dX7_steps_46 rfl hW.mo rfl ?_
    refine aw_ilo 1 (pcn := 50) rfl dX7_steps_49 rfl rfl ?_
    refine aw_ialdM (j := 16) (pcn := 51) hW dX7_steps_50 rfl (show _ < 8 by omega) ?_
    refine aw_iastM (j := 15) (pcn := 52) hW dX7_steps_51 rfl (show _ < 8 by omega) (fun h hW => ?_)
    refine aw_alo 0 (pcn := 53) rfl dX7_steps_52 rfl rfl (rf_some _) ?_
    refine aw_getf (pcn := 56) fl_X7_46 dX7_steps_53 rfl hW.mo rfl ?_
    refine aw_ilo 1 (pcn := 57) rfl dX7_steps_56 rfl rfl ?_
    refine aw_ilo 3 (pcn := 58) rfl dX7_steps_57 rfl rfl ?_
    refine aw_iastM (j := 16) (pcn := 59) hW dX7_steps_58 rfl (show _ < 8 by omega) (fun h hW => ?_)
    refine aw_alo 0 (pcn := 60) rfl dX7_steps_59 rfl rfl (rf_some _) ?_
    refine aw_getf (pcn := 63) fl_X7_49 dX7_steps_60 rfl hW.mo rfl ?_
    refine aw_ilo 1 (pcn := 64) rfl dX7_steps_63 rfl rfl ?_
    refine aw_alo 0 (pcn := 65) rfl dX7_steps_64 rfl rfl (rf_some _) ?_
    refine aw_getf (pcn := 68) fl_X7_103 dX7_steps_65 rfl hW.mo rfl ?_
    refine aw_alo 0 (pcn := 69) rfl dX7_steps_68 rfl rfl (rf_some _) ?_
    refine aw_getf (pcn := 72) fl_X7_19 dX7_steps_69 rfl hW.mo rfl ?_
    refine aw_ilo 1 (pcn := 73) rfl dX7_steps_72 rfl rfl ?_
    refine aw_ialdM (j := 7) (pcn := 74) hW dX7_steps_73 rfl (show _ < 8 by omega) ?_
    refine aw_iadd (pcn := 75) dX7_steps_74 rfl ?_
    refine aw_iastM (j := 17) (pcn := 76) hW dX7_steps_75 rfl (show _ < 8 by omega) (fun h hW => ?_)
    refine aw_alo 0 (pcn := 77) rfl dX7_steps_76 rfl rfl (rf_some _) ?_
    refine aw_getf (pcn := 80) fl_X7_40 dX7_steps_77 rfl hW.mo rfl ?_
    refine aw_ilo 1 (pcn := 81) rfl dX7_steps_80 rfl rfl ?_
    refine aw_ialdM (j := 14) (pcn := 82) hW dX7_steps_81 rfl (show _ < 8 by omega) ?_
    exact aw_iret dX7_steps_82 rfl ⟨_, rfl, (by first | (unfold stpT; rw [if_pos q0, hP1, show ix (nI P0) = P0 from nI_clamp (by omega)]; exact ⟨rfl, hW⟩) | (unfold stpT; rw [if_neg q0]; exact ⟨rfl, hW.ghost (j := 27) (i := c) (v := Tr 2 0 + Tr 7 c) (by omega)⟩))⟩
  · have q0 : Tr 14 c - t = 0 := by simpa only [up_s] using q1
    refine aw_alo 0 (pcn := 20) rfl dX7_steps_19 rfl rfl (rf_some _) ?_
    refine aw_ilo 1 (pcn := 21) rfl dX7_steps_20 rfl rfl ?_
    refine aw_alo 0 (pcn := 22) rfl dX7_steps_21 rfl rfl (rf_some _) ?_
    refine aw_getf (pcn := 25) fl_X7_43 dX7_steps_22 rfl hW.mo rfl ?_
    refine aw_ilo 1 (pcn := 26) rfl dX7_steps_25 rfl rfl ?_
    refine aw_ialdM (j := 15) (pcn := 27) hW dX7_steps_26 rfl (show _ < 8 by omega) ?_
    rw [show (up Tr 14 c (Tr 14 c - t)) 15 c = nI P0 from hP1]
    refine aw_Vv (pcn := 30) (r_wins hW (c := _) (P0 := P0) (by omega) (by omega)) mf_X7_wins mv_X7_wins hW.mo rfl ml_X7_110 rfl (by decide) (by decide) (by decide) (by exact Nat.le_of_ble_eq_true rfl) rfl dX7_steps_27 rfl (fun h hW => ?_)
    refine aw_goto (t := 76) dX7_steps_30 (by decide) ?_
    refine aw_alo 0 (pcn := 77) rfl dX7_steps_76 rfl rfl (rf_some _) ?_
    refine aw_getf (pcn := 80) fl_X7_40 dX7_steps_77 rfl hW.mo rfl ?_
    refine aw_ilo 1 (pcn := 81) rfl dX7_steps_80 rfl rfl ?_
    refine aw_ialdM (j := 14) (pcn := 82) hW dX7_steps_81 rfl (show _ < 8 by omega) ?_
    exact aw_iret dX7_steps_82 rfl ⟨_, rfl, (by first | (unfold stpT; rw [if_pos q0, hP1, show ix (nI P0) = P0 from nI_clamp (by omega)]; exact ⟨rfl, hW⟩) | (unfold stpT; rw [if_neg q0]; exact ⟨rfl, hW.ghost (j := 27) (i := c) (v := Tr 2 0 + Tr 7 c) (by omega)⟩))⟩
