/-! the class: writing methods -/
theorem payT_up (T : TB) (c p : Nat) (v : Int32) (a x : Nat) (w : Int32) (h0 : a ≠ 0) (h8 : a ≠ 8) : payT (up T a x w) c p v = up (payT T c p v) a x w := by
  unfold payT
  rw [up_j _ _ _ _ (Ne.symm h0), up_j _ _ _ _ (Ne.symm h8), up_comm _ _ _ _ _ h0, up_comm _ _ _ _ _ h8]
def phT (T : TB) (c k p : Nat) (v : Int32) : TB := up (payT T c p v) 12 c (T 12 c - shiT k)
set_option maxHeartbeats 8000000 in
set_option maxRecDepth 20000 in
theorem c_payFrom {X : XG} {l : Launch} {Γ : NM} {ow : Nat → Nat × Nat} {h : Hp} {T Tr : TB} {nh : Nat} (hW : WD Γ ow h T Tr nh) {c : Nat} (vc : c < ix (T 5 0)) {P : Nat} (hP : P < 6) (v : Int32) : AM X l yX6_payFrom cX6_payFrom 4 (none) 1 0 0 [.ref (Γ 0 0), .ref (Γ 7 c), .int (nI P), .int v] h (qv fun h' => WD Γ ow h' (payT T c P v) Tr nh ∧ Kp h h') := by
  refine AM.of (by decide +kernel) (by simp [Value.category]) (Nat.le_of_ble_eq_true rfl) ?_
  show AW X l cX6_payFrom RX6 "payFrom" (none) 4 1 none _ 0 0 0 [some (.ref (Γ 0 0)), some (.ref (Γ 7 c)), some (.int (nI P)), some (.int v)] [] h
  have hK : Kp h h := Kp.rfl
  obtain ⟨g, hc, hg⟩ := hW.ch (c := c) vc
  refine aw_alo 1 (pcn := 1) rfl dX6_payFrom_0 rfl rfl (rf_some _) ?_
  refine aw_dup (pcn := 2) dX6_payFrom_1 rfl rfl ?_
  refine aw_getf (pcn := 5) fl_X6_77 dX6_payFrom_2 rfl hc rfl ?_
  refine aw_ilo 3 (pcn := 6) rfl dX6_payFrom_5 rfl rfl ?_
  refine aw_isub (pcn := 7) dX6_payFrom_6 rfl ?_
  refine aw_putC (pcn := 10) hW vc hc fp_X6_77 (by decide) (VF.i _) (cs_3 _ _ _ _ _) (hW.chW vc hg (j := 8) (by omega)) dX6_payFrom_7 rfl (fun h hW hk => ?_)
  have hK := hK.trans hk
  obtain ⟨g, hc, hg⟩ := hW.ch (c := c) vc
  refine aw_alo 0 (pcn := 11) rfl dX6_payFrom_10 rfl rfl (rf_some _) ?_
  refine aw_getf (pcn := 14) fl_X6_10 dX6_payFrom_11 rfl hW.sc rfl ?_
  refine aw_ilo 2 (pcn := 15) rfl dX6_payFrom_14 rfl rfl ?_
  refine aw_ilo 3 (pcn := 16) rfl dX6_payFrom_15 rfl rfl ?_
  refine aw_Vv (pcn := 19) (c_add0 hW.acc.1 hW.acc.2 hP v) mf_X5_add mv_X5_add hW.acc.1 rfl ml_X6_74 rfl (by decide) (by decide) (by decide) (by exact Nat.le_of_ble_eq_true rfl) rfl dX6_payFrom_16 rfl (fun h hq => ?_)
  have hK := hK.trans (Kp.put hW hq (v0 (by decide)))
  have hW := hW.accW P ((up T 8 c (T 8 c - v)) 0 P + v)
  rw [← hq] at hW
  clear hq
  exact aw_ret dX6_payFrom_19 rfl ⟨rfl, (by unfold payT; rw [up_comm _ _ _ _ _ (by decide)]; exact hW), hK⟩

set_option maxHeartbeats 8000000 in
set_option maxRecDepth 20000 in
theorem c_payHeld {X : XG} {l : Launch} {Γ : NM} {ow : Nat → Nat × Nat} {h : Hp} {T Tr : TB} {nh : Nat} (hW : WD Γ ow h T Tr nh) {c : Nat} (vc : c < ix (T 5 0)) {K P : Nat} (hP : P < 6) (v : Int32) (hx : T 12 c &&& (shiT K ^^^ -1) = T 12 c - shiT K) : AM X l yX6_payHeldLock cX6_payHeldLock 5 (none) 2 0 0 [.ref (Γ 0 0), .ref (Γ 7 c), .int (nI K), .int (nI P), .int v] h (qv fun h' => WD Γ ow h' (phT T c K P v) Tr nh ∧ Kp h h') := by
  refine AM.of (by decide +kernel) (by simp [Value.category]) (Nat.le_of_ble_eq_true rfl) ?_
  show AW X l cX6_payHeldLock RX6 "payHeldLock" (none) 5 2 none _ 0 0 0 [some (.ref (Γ 0 0)), some (.ref (Γ 7 c)), some (.int (nI K)), some (.int (nI P)), some (.int v)] [] h
  have hK : Kp h h := Kp.rfl
  obtain ⟨g, hc, hg⟩ := hW.ch (c := c) vc
  refine aw_alo 1 (pcn := 1) rfl dX6_payHeldLock_0 rfl rfl (rf_some _) ?_
  refine aw_dup (pcn := 2) dX6_payHeldLock_1 rfl rfl ?_
  refine aw_getf (pcn := 5) fl_X6_259 dX6_payHeldLock_2 rfl hc rfl ?_
  refine aw_iconst (v := nI 1) (pcn := 6) dX6_payHeldLock_5 rfl (by decide) ?_
  refine aw_ilo 2 (pcn := 7) rfl dX6_payHeldLock_6 rfl rfl ?_
  refine aw_ishl (pcn := 8) dX6_payHeldLock_7 rfl ?_
  refine aw_iconst (v := -1) (pcn := 9) dX6_payHeldLock_8 rfl (by decide) ?_
  refine aw_ixor (pcn := 10) dX6_payHeldLock_9 rfl ?_
  refine aw_iand (pcn := 11) dX6_payHeldLock_10 rfl ?_
  rw [show T 12 c &&& (nI 1 <<< (nI K &&& 31) ^^^ -1) = T 12 c - shiT K from hx]
  refine aw_putC (pcn := 14) hW vc hc fp_X6_259 (by decide) (VF.i _) (cs_9 _ _ _ _ _) (hW.chW vc hg (j := 12) (by omega)) dX6_payHeldLock_11 rfl (fun h hW hk => ?_)
  have hK := hK.trans hk
  obtain ⟨g, hc, hg⟩ := hW.ch (c := c) vc
  refine aw_alo 0 (pcn := 15) rfl dX6_payHeldLock_14 rfl rfl (rf_some _) ?_
  refine aw_alo 1 (pcn := 16) rfl dX6_payHeldLock_15 rfl rfl (rf_some _) ?_
  refine aw_ilo 3 (pcn := 17) rfl dX6_payHeldLock_16 rfl rfl ?_
  refine aw_iload (pcn := 19) dX6_payHeldLock_17 rfl rfl ?_
  refine aw_Vv (pcn := 22) (c_payFrom hW (c := c) vc hP _) mf_X6_payFrom mv_X6_payFrom hW.sc rfl ml_X6_242 rfl (by decide) (by decide) (by decide) (by exact Nat.le_of_ble_eq_true rfl) rfl dX6_payHeldLock_19 rfl (fun h hW => ?_)
  obtain ⟨hW, hk⟩ := hW
  have hK := hK.trans hk
  exact aw_ret dX6_payHeldLock_22 rfl ⟨rfl, (by unfold phT; rw [← payT_up _ _ _ _ _ _ _ (by decide) (by decide)]; exact hW), hK⟩

def hgT (T : TB) (c k : Nat) (mu fr ex : Int32) : TB := if mu = 0 then T else if ex ≤ T 2 0 then payT T c (ix fr) mu else up T 12 c (T 12 c ||| shiT k)
set_option maxHeartbeats 8000000 in
set_option maxRecDepth 20000 in
theorem c_hogb {X : XG} {l : Launch} {Γ : NM} {ow : Nat → Nat × Nat} {h : Hp} {T Tr : TB} {nh : Nat} (hW : WD Γ ow h T Tr nh) {c : Nat} (vc : c < ix (T 5 0)) {K : Nat} {r : Option Nat} {mu fr to se ex : Int32} (hr : LkOK h r mu fr to se ex) (hfr : mu ≠ 0 → okI fr 6) : AM X l yX6_holdOrGiveBack cX6_holdOrGiveBack 4 (none) 2 0 0 [.ref (Γ 0 0), .ref (Γ 7 c), .int (nI K), va_rf r] h (qv fun h' => WD Γ ow h' (hgT T c K mu fr ex) Tr nh) := by
  refine AM.of (by decide +kernel) (by cases r <;> simp [Value.category, va_rf]) (Nat.le_of_ble_eq_true rfl) ?_
  show AW X l cX6_holdOrGiveBack RX6 "holdOrGiveBack" (none) 4 2 none _ 0 0 0 [some (.ref (Γ 0 0)), some (.ref (Γ 7 c)), some (.int (nI K)), some (va_rf r)] [] h
  obtain ⟨g, hc, hg⟩ := hW.ch (c := c) vc
  refine aw_alo 3 (pcn := 1) rfl dX6_holdOrGiveBack_0 rfl rfl (rfl) ?_
  refine aw_ifnonnull (t := 5) (pcn := 4) dX6_holdOrGiveBack_1 rfl (by decide) rfl (fun a2 q1 => ?_) (fun q1 => ?_)
  · have hz := hr.s q1
    subst q1
    obtain ⟨P, hP, hP1⟩ := hfr hz.1
    refine aw_alo 3 (pcn := 6) rfl dX6_holdOrGiveBack_5 rfl rfl (rf_some _) ?_
    refine aw_getf (pcn := 9) fl_X6_256 dX6_holdOrGiveBack_6 rfl hz.2 rfl ?_
    refine aw_alo 0 (pcn := 10) rfl dX6_holdOrGiveBack_9 rfl rfl (rf_some _) ?_
    refine aw_getf (pcn := 13) fl_X6_224 dX6_holdOrGiveBack_10 rfl hW.sc rfl ?_
    refine aw_icmp_le (t := 31) (pcn := 16) dX6_holdOrGiveBack_13 rfl (by decide) (fun q3 => ?_) (fun q3 => ?_)
    · refine aw_alo 0 (pcn := 32) rfl dX6_holdOrGiveBack_31 rfl rfl (rf_some _) ?_
      refine aw_alo 1 (pcn := 33) rfl dX6_holdOrGiveBack_32 rfl rfl (rf_some _) ?_
      refine aw_alo 3 (pcn := 34) rfl dX6_holdOrGiveBack_33 rfl rfl (rf_some _) ?_
      refine aw_getf (pcn := 37) fl_X6_164 dX6_holdOrGiveBack_34 rfl hz.2 rfl ?_
      rw [hP1]
      refine aw_alo 3 (pcn := 38) rfl dX6_holdOrGiveBack_37 rfl rfl (rf_some _) ?_
      refine aw_getf (pcn := 41) fl_X6_167 dX6_holdOrGiveBack_38 rfl hz.2 rfl ?_
      refine aw_Vv (pcn := 44) (c_payFrom hW (c := c) vc hP _) mf_X6_payFrom mv_X6_payFrom hW.sc rfl ml_X6_242 rfl (by decide) (by decide) (by decide) (by exact Nat.le_of_ble_eq_true rfl) rfl dX6_holdOrGiveBack_41 rfl (fun h hW => ?_)
      obtain ⟨hW, hk⟩ := hW
      exact aw_ret dX6_holdOrGiveBack_44 rfl ⟨rfl, by unfold hgT; first | (rw [if_neg hz.1, if_pos q3, ix_nI (by omega)]; exact hW) | (rw [if_neg hz.1, if_neg q3]; exact hW)⟩
    · refine aw_alo 1 (pcn := 17) rfl dX6_holdOrGiveBack_16 rfl rfl (rf_some _) ?_
      refine aw_dup (pcn := 18) dX6_holdOrGiveBack_17 rfl rfl ?_
      refine aw_getf (pcn := 21) fl_X6_259 dX6_holdOrGiveBack_18 rfl hc rfl ?_
      refine aw_iconst (v := nI 1) (pcn := 22) dX6_holdOrGiveBack_21 rfl (by decide) ?_
      refine aw_ilo 2 (pcn := 23) rfl dX6_holdOrGiveBack_22 rfl rfl ?_
      refine aw_ishl (pcn := 24) dX6_holdOrGiveBack_23 rfl ?_
      refine aw_ior (pcn := 25) dX6_holdOrGiveBack_24 rfl ?_
      refine aw_putC (pcn := 28) hW vc hc fp_X6_259 (by decide) (VF.i _) (cs_9 _ _ _ _ _) (hW.chW vc hg (j := 12) (by omega)) dX6_holdOrGiveBack_25 rfl (fun h hW hk => ?_)
      obtain ⟨g, hc, hg⟩ := hW.ch (c := c) vc
      refine aw_goto (t := 44) dX6_holdOrGiveBack_28 (by decide) ?_
      exact aw_ret dX6_holdOrGiveBack_44 rfl ⟨rfl, by unfold hgT; first | (rw [if_neg hz.1, if_pos q3, ix_nI (by omega)]; exact hW) | (rw [if_neg hz.1, if_neg q3]; exact hW)⟩
  · have hz := hr.n q1
    exact aw_ret dX6_holdOrGiveBack_4 rfl ⟨rfl, by unfold hgT; rw [if_pos hz]; exact hW⟩

set_option maxHeartbeats 8000000 in
set_option maxRecDepth 20000 in
theorem c_lockAtR {X : XG} {l : Launch} {Γ : NM} {ow : Nat → Nat × Nat} {h : Hp} {T Tr : TB} {nh : Nat} (hW : WD Γ ow h T Tr nh) {S K : Nat} (vs : S < ix (T 18 0)) (hK : K < 3) : AM X l yX4_lockAt cX4_lockAt 2 (some (.object "StateChannels$Lock")) 0 0 0 [.ref (Γ 8 S), .int (nI K)] h (qr fun r h' => LkOK h r (lkT T S K 0) (lkT T S K 1) (lkT T S K 2) (lkT T S K 3) (lkT T S K 4) ∧ h' = h) := by
  refine AM.of (by decide +kernel) (by simp [Value.category]) (Nat.le_of_ble_eq_true rfl) ?_
  show AW X l cX4_lockAt RX4 "lockAt" (some (.object "StateChannels$Lock")) 2 0 none _ 0 0 0 [some (.ref (Γ 8 S)), some (.int (nI K))] [] h
  obtain ⟨gs, hs, hgs⟩ := hW.st' vs
  obtain ⟨fl, hl1, hl2⟩ := hW.lk vs
  refine aw_ilo 1 (pcn := 1) rfl dX4_lockAt_0 rfl rfl ?_
  refine aw_if_lt (t := 22) (pcn := 4) dX4_lockAt_1 rfl (by decide) (fun q => absurd q (nI_pos (by omega))) (fun _ => ?_)
  refine aw_ilo 1 (pcn := 5) rfl dX4_lockAt_4 rfl rfl ?_
  refine aw_alo 0 (pcn := 6) rfl dX4_lockAt_5 rfl rfl (rf_some _) ?_
  refine aw_getf (pcn := 9) fl_X4_23 dX4_lockAt_6 rfl hs rfl ?_
  refine aw_alenr (v := nI 3) (pcn := 10) dX4_lockAt_9 rfl hl1 (by decide) (by decide) ?_
  refine aw_icmp_ge (t := 22) (pcn := 13) dX4_lockAt_10 rfl (by decide) (fun q => absurd q (nI_ge hK (by decide))) (fun _ => ?_)
  refine aw_alo 0 (pcn := 14) rfl dX4_lockAt_13 rfl rfl (rf_some _) ?_
  refine aw_getf (pcn := 17) fl_X4_23 dX4_lockAt_14 rfl hs rfl ?_
  refine aw_ilo 1 (pcn := 18) rfl dX4_lockAt_17 rfl rfl ?_
  refine aw_aaldN (pcn := 19) (by decide) dX4_lockAt_18 rfl hl1 (by decide) (show _ < 3 by omega) ?_
  refine aw_goto (t := 23) dX4_lockAt_19 (by decide) ?_
  exact aw_aret dX4_lockAt_23 rfl (Or.inl ⟨_, rfl⟩) rfl ⟨_, rfl, hl2 K hK, rfl⟩

theorem eShT_up (T : TB) (c s n a x : Nat) (w : Int32) (h0 : a ≠ 0) (h8 : a ≠ 8) (h19 : a ≠ 19) : eShT (up T a x w) c s n = up (eShT T c s n) a x w := by
  induction n with
  | zero => rfl
  | succ n ih =>
    rw [eShT, eShT, ih, payT_up _ _ _ _ _ _ _ h0 h8, up_j _ _ _ _ (Ne.symm h19)]
theorem eLkT_up (T : TB) (c s k a x : Nat) (w : Int32) (h0 : a ≠ 0) (h8 : a ≠ 8) (h12 : a ≠ 12) (h19 : a ≠ 19) (h2 : a ≠ 2) : eLkT (up T a x w) c s k = up (eLkT T c s k) a x w := by
  have e19 : ∀ y, up T a x w 19 y = T 19 y := fun y => up_j _ _ _ _ (Ne.symm h19)
  unfold eLkT paysT
  simp only [e19, up_j T x 0 w (Ne.symm h2), up_j T x c w (Ne.symm h12), lkT]
  split
  · rfl
  · split
    · rw [up_comm _ _ _ _ _ h12, payT_up _ _ _ _ _ _ _ h0 h8, up_comm _ _ _ _ _ h12, up_j _ _ _ _ (Ne.symm h12), up_j _ _ _ _ (Ne.symm h19)]
    · rw [up_comm _ _ _ _ _ h12]
/-- held or given back, as the reference's end has it -/
theorem hgT_eLk {T : TB} {c s k : Nat} (h0 : 0 ≤ T 19 (35 * s + 16 + 5 * k + 0)) (hor : T 12 c ||| shiT k = T 12 c + shiT k) : hgT T c k (T 19 (35 * s + 16 + 5 * k + 0)) (T 19 (35 * s + 16 + 5 * k + 1)) (T 19 (35 * s + 16 + 5 * k + 4)) = eLkT T c s k := by
  have hz : (T 19 (35 * s + 16 + 5 * k + 0) = 0) = (T 19 (35 * s + 16 + 5 * k + 0) ≤ 0) := propext ⟨fun h => by rw [h]; exact Int32.le_refl _, fun h => Int32.le_antisymm h h0⟩
  unfold hgT eLkT
  rw [hor]
  simp only [hz]
  split
  · rfl
  · split
    · unfold paysT
      rw [payT_up _ _ _ _ _ _ _ (by decide) (by decide), up_s, up_up, Int32.add_sub_cancel]
      rw [show lkT (up T 12 c (T 12 c + shiT k)) s k 0 = T 19 (35 * s + 16 + 5 * k + 0) from up_j _ _ _ _ (by decide)]
      exact (up_id (payT_j _ _ _ _ _ (by decide) (by decide))).symm
    · rfl
theorem bits_or3 : (nI 0 ||| shiT 0 = nI 0 + shiT 0) ∧ (∀ a : Bool, (nI 0 + (if a then shiT 0 else 0)) ||| shiT 1 = (nI 0 + (if a then shiT 0 else 0)) + shiT 1) ∧ ∀ a b : Bool, (nI 0 + (if a then shiT 0 else 0) + (if b then shiT 1 else 0)) ||| shiT 2 = (nI 0 + (if a then shiT 0 else 0) + (if b then shiT 1 else 0)) + shiT 2 := by decide +kernel
/-- the class's way to a channel's end -/
def ecA (T : TB) (c s : Nat) : TB := up (up (up (up T 9 c (nI 3)) 10 c (nI s)) 25 c (-1)) 26 c 0
def ecD (T : TB) (c s : Nat) : TB := eLkT (eLkT (eLkT (eShT (ecA T c s) c s 6) c s 0) c s 1) c s 2
def ecF (T : TB) (c s : Nat) : TB := up (gmU (ecD T c s) c (T 19 (35 * s + 31)) (T 19 (35 * s + 32)) (T 19 (35 * s + 33)) (T 19 (35 * s + 34))) 27 c (if T 19 (35 * s + 31) = 0 then 0 else T 2 0 + T 7 c)
theorem ecD_eq {T : TB} {c s : Nat} (h12 : T 12 c = nI 0) : ecD T c s = up (up (endP T c s) 25 c (-1)) 26 c 0 := by
  unfold ecD ecA endP
  rw [up_id (T := up (up T 9 c (nI 3)) 10 c (nI s)) (j := 12) (i := c) (v := nI 0) (by rw [up_j _ _ _ _ (by decide), up_j _ _ _ _ (by decide)]; exact h12)]
  rw [eShT_up _ _ _ _ _ _ _ (by decide) (by decide) (by decide), eShT_up _ _ _ _ _ _ _ (by decide) (by decide) (by decide), eLkT_up _ _ _ _ _ _ _ (by decide) (by decide) (by decide) (by decide) (by decide), eLkT_up _ _ _ _ _ _ _ (by decide) (by decide) (by decide) (by decide) (by decide), eLkT_up _ _ _ _ _ _ _ (by decide) (by decide) (by decide) (by decide) (by decide), eLkT_up _ _ _ _ _ _ _ (by decide) (by decide) (by decide) (by decide) (by decide), eLkT_up _ _ _ _ _ _ _ (by decide) (by decide) (by decide) (by decide) (by decide), eLkT_up _ _ _ _ _ _ _ (by decide) (by decide) (by decide) (by decide) (by decide)]
theorem ecF_eq {T : TB} {c s : Nat} (h12 : T 12 c = nI 0) : up (ecF T c s) 17 c (T 2 0 + T 7 c) = endT T c s := by
  have g : ∀ j x, j = 2 ∨ j = 7 ∨ j = 19 → endP T c s j x = T j x := fun j x hj => by
    unfold endP
    rw [eLkT_j _ _ _ _ _ (by omega) (by omega) (by omega), eLkT_j _ _ _ _ _ (by omega) (by omega) (by omega), eLkT_j _ _ _ _ _ (by omega) (by omega) (by omega), eShT_j _ _ _ _ _ (by omega) (by omega), up_j _ _ _ _ (by omega), up_j _ _ _ _ (by omega), up_j _ _ _ _ (by omega)]
  unfold ecF
  rw [ecD_eq h12]
  show _ = eGhT (eGmT (endP T c s) c s) c s
  rw [← g 19 (35 * s + 31) (by omega), ← g 19 (35 * s + 32) (by omega), ← g 19 (35 * s + 33) (by omega), ← g 19 (35 * s + 34) (by omega), ← g 2 0 (by omega), ← g 7 c (by omega)]
  generalize endP T c s = E
  funext j x
  by_cases e : x = c
  · subst e
    by_cases a : j = 13 ∨ j = 14 ∨ j = 15 ∨ j = 16 ∨ j = 17 ∨ j = 25 ∨ j = 26 ∨ j = 27
    · rcases a with rfl | rfl | rfl | rfl | rfl | rfl | rfl | rfl <;> simp [eGhT, eGmT, gmU, up]
    · unfold eGhT eGmT gmU
      rw [up_j _ _ _ _ (by omega), up_j _ _ _ _ (by omega), up_j _ _ _ _ (by omega), up_j _ _ _ _ (by omega), up_j _ _ _ _ (by omega), up_j _ _ _ _ (by omega), up_j _ _ _ _ (by omega), up_j _ _ _ _ (by omega), up_j _ _ _ _ (by omega), up_j _ _ _ _ (by omega), up_j _ _ _ _ (by omega), up_j _ _ _ _ (by omega), up_j _ _ _ _ (by omega), up_j _ _ _ _ (by omega), up_j _ _ _ _ (by omega), up_j _ _ _ _ (by omega)]
  · unfold eGhT eGmT gmU up
    simp [e]
set_option maxHeartbeats 8000000 in
set_option maxRecDepth 20000 in
theorem c_endBy {X : XG} {l : Launch} {Γ : NM} {ow : Nat → Nat × Nat} {h : Hp} {T Tr : TB} {nh : Nat} (hW : WD Γ ow h T Tr nh) {S c : Nat} (hS : S < 64) (vs : S < ix (T 18 0)) (hc8 : c < 8) (vc : c < ix (T 5 0)) (hc0 : T 19 (35 * S + 0) = nI c) (h12 : T 12 c = nI 0) (hm : ∀ k, k < 3 → 0 ≤ T 19 (35 * S + 16 + 5 * k + 0)) (hfr : ∀ k, k < 3 → okI (lkT T S k 1) 6) : AM X l yX6_endBy cX6_endBy 4 (none) 3 0 0 [.ref (Γ 0 0), .ref (Γ 8 S)] h (qv fun h' => WD Γ ow h' (endT T c S) Tr nh) := by
  refine AM.of (by decide +kernel) (by simp [Value.category]) (Nat.le_of_ble_eq_true rfl) ?_
  show AW X l cX6_endBy RX6 "endBy" (none) 4 3 none _ 0 0 0 [some (.ref (Γ 0 0)), some (.ref (Γ 8 S)), none, none] [] h
  obtain ⟨gs, hs, hgs⟩ := hW.st (s := S) vs hc8 hc0
  refine aw_alo 1 (pcn := 1) rfl dX6_endBy_0 rfl rfl (rf_some _) ?_
  obtain ⟨gs, hs, hgs⟩ := hW.st (s := S) vs hc8 hc0
  refine aw_getf (pcn := 4) fl_X6_195 dX6_endBy_1 rfl hs rfl ?_
  refine aw_ast 2 (pcn := 5) rfl dX6_endBy_4 rfl (by decide) (rf_some _) ?_
  dsimp only [List.set_cons_zero, List.set_cons_succ]
  obtain ⟨g, hc, hg⟩ := hW.ch (c := c) vc
  refine aw_alo 2 (pcn := 6) rfl dX6_endBy_5 rfl rfl (rf_some _) ?_
  refine aw_iconst (v := nI 3) (pcn := 7) dX6_endBy_6 rfl (by decide) ?_
  refine aw_putC (pcn := 10) hW vc hc fp_X6_97 (by decide) (VF.i _) (cs_4 _ _ _ _ _) (hW.chW vc hg (j := 9) (by omega)) dX6_endBy_7 rfl (fun h hW hk => ?_)
  obtain ⟨g, hc, hg⟩ := hW.ch (c := c) vc
  refine aw_alo 2 (pcn := 11) rfl dX6_endBy_10 rfl rfl (rf_some _) ?_
  refine aw_alo 1 (pcn := 12) rfl dX6_endBy_11 rfl rfl (rf_some _) ?_
  refine aw_putC (pcn := 15) (T' := up _ 10 c (nI S)) hW vc hc fp_X6_230 (by decide) (VF.o _ (some _)) (by rw [← cs_7, sref_nI hS]; rfl) (hW.chW vc hg (j := 10) (by omega)) dX6_endBy_12 rfl (fun h hW hk => ?_)
  obtain ⟨g, hc, hg⟩ := hW.ch (c := c) vc
  refine aw_alo 2 (pcn := 16) rfl dX6_endBy_15 rfl rfl (rf_some _) ?_
  refine aw_null (pcn := 17) dX6_endBy_16 rfl ?_
  refine aw_putC (pcn := 20) (T' := up _ 25 c (-1)) hW vc hc fp_X6_86 (by decide) (VF.o _ none) (by rw [← cs_6, sref_m1]; rfl) (hW.chW vc hg (j := 25) (by omega)) dX6_endBy_17 rfl (fun h hW hk => ?_)
  obtain ⟨g, hc, hg⟩ := hW.ch (c := c) vc
  refine aw_alo 2 (pcn := 21) rfl dX6_endBy_20 rfl rfl (rf_some _) ?_
  refine aw_iconst (v := nI 0) (pcn := 22) dX6_endBy_21 rfl (by decide) ?_
  refine aw_putC (pcn := 25) hW vc hc fp_X6_212 (by decide) (VF.i _) (cs_8 _ _ _ _ _) (hW.chW vc hg (j := 26) (by omega)) dX6_endBy_22 rfl (fun h hW hk => ?_)
  obtain ⟨g, hc, hg⟩ := hW.ch (c := c) vc
  have hW : WD Γ ow h (ecA T c S) Tr nh := by rw [nI_0] at hW; exact hW
  refine aw_iconst (v := nI 0) (pcn := 26) dX6_endBy_25 rfl (by decide) ?_
  refine aw_ist 3 (pcn := 27) rfl dX6_endBy_26 rfl (by decide) ?_
  dsimp only [List.set_cons_zero, List.set_cons_succ]
  have hW : WD Γ ow h (eShT (ecA T c S) c S 0) Tr nh := hW
  refine aw_ilo 3 (pcn := 28) rfl dX6_endBy_27 rfl rfl ?_
  refine aw_bipush (v := nI 6) (pcn := 30) dX6_endBy_28 rfl (by decide) ?_
  refine aw_icmp_ge (t := 53) (pcn := 33) dX6_endBy_30 rfl (by decide) (fun q1 => absurd q1 (by decide)) (fun q1 => ?_)
  refine aw_alo 0 (pcn := 34) rfl dX6_endBy_33 rfl rfl (rf_some _) ?_
  refine aw_alo 2 (pcn := 35) rfl dX6_endBy_34 rfl rfl (rf_some _) ?_
  refine aw_ilo 3 (pcn := 36) rfl dX6_endBy_35 rfl rfl ?_
  refine aw_alo 1 (pcn := 37) rfl dX6_endBy_36 rfl rfl (rf_some _) ?_
  obtain ⟨gs, hs, hgs⟩ := hW.st (s := S) vs hc8 hc0
  refine aw_getf (pcn := 40) fl_X6_80 dX6_endBy_37 rfl hs rfl ?_
  refine aw_ilo 3 (pcn := 41) rfl dX6_endBy_40 rfl rfl ?_
  obtain ⟨fs, hsh1, hsh2, hsh3⟩ := hW.sh (s := S) vs
  refine aw_Vi (pcn := 44) (c_get0 hsh1 hsh2 _) mf_X5_get mv_X5_get hsh1 rfl ml_X6_110 rfl (by decide) (by decide) (by decide) (by exact Nat.le_of_ble_eq_true rfl) rfl dX6_endBy_41 rfl (fun r h2 hq => ?_)
  obtain ⟨rfl, hq⟩ := hq
  obtain rfl := hq.symm
  rw [sgT_nI (by decide), hsh3 0 (by decide)]
  refine aw_Vv (pcn := 47) (c_payFrom hW (c := c) vc (by decide) _) mf_X6_payFrom mv_X6_payFrom hW.sc rfl ml_X6_242 rfl (by decide) (by decide) (by decide) (by exact Nat.le_of_ble_eq_true rfl) rfl dX6_endBy_44 rfl (fun h hW => ?_)
  obtain ⟨hW, hk⟩ := hW
  refine aw_iinc (v := nI 1) (pcn := 50) dX6_endBy_47 rfl (by decide) rfl (by decide) ?_
  dsimp only [List.set_cons_zero, List.set_cons_succ]
  refine aw_goto (t := 27) dX6_endBy_50 (by decide) ?_
  refine aw_ilo 3 (pcn := 28) rfl dX6_endBy_27 rfl rfl ?_
  refine aw_bipush (v := nI 6) (pcn := 30) dX6_endBy_28 rfl (by decide) ?_
  refine aw_icmp_ge (t := 53) (pcn := 33) dX6_endBy_30 rfl (by decide) (fun q2 => absurd q2 (by decide)) (fun q2 => ?_)
  refine aw_alo 0 (pcn := 34) rfl dX6_endBy_33 rfl rfl (rf_some _) ?_
  refine aw_alo 2 (pcn := 35) rfl dX6_endBy_34 rfl rfl (rf_some _) ?_
  refine aw_ilo 3 (pcn := 36) rfl dX6_endBy_35 rfl rfl ?_
  refine aw_alo 1 (pcn := 37) rfl dX6_endBy_36 rfl rfl (rf_some _) ?_
  obtain ⟨gs, hs, hgs⟩ := hW.st (s := S) vs hc8 hc0
  refine aw_getf (pcn := 40) fl_X6_80 dX6_endBy_37 rfl hs rfl ?_
  refine aw_ilo 3 (pcn := 41) rfl dX6_endBy_40 rfl rfl ?_
  obtain ⟨fs, hsh1, hsh2, hsh3⟩ := hW.sh (s := S) vs
  refine aw_Vi (pcn := 44) (c_get0 hsh1 hsh2 _) mf_X5_get mv_X5_get hsh1 rfl ml_X6_110 rfl (by decide) (by decide) (by decide) (by exact Nat.le_of_ble_eq_true rfl) rfl dX6_endBy_41 rfl (fun r h2 hq => ?_)
  obtain ⟨rfl, hq⟩ := hq
  obtain rfl := hq.symm
  rw [sgT_nI (by decide), hsh3 1 (by decide)]
  refine aw_Vv (pcn := 47) (c_payFrom hW (c := c) vc (by decide) _) mf_X6_payFrom mv_X6_payFrom hW.sc rfl ml_X6_242 rfl (by decide) (by decide) (by decide) (by exact Nat.le_of_ble_eq_true rfl) rfl dX6_endBy_44 rfl (fun h hW => ?_)
  obtain ⟨hW, hk⟩ := hW
  refine aw_iinc (v := nI 2) (pcn := 50) dX6_endBy_47 rfl (by decide) rfl (by decide) ?_
  dsimp only [List.set_cons_zero, List.set_cons_succ]
  refine aw_goto (t := 27) dX6_endBy_50 (by decide) ?_
  refine aw_ilo 3 (pcn := 28) rfl dX6_endBy_27 rfl rfl ?_
  refine aw_bipush (v := nI 6) (pcn := 30) dX6_endBy_28 rfl (by decide) ?_
  refine aw_icmp_ge (t := 53) (pcn := 33) dX6_endBy_30 rfl (by decide) (fun q3 => absurd q3 (by decide)) (fun q3 => ?_)
  refine aw_alo 0 (pcn := 34) rfl dX6_endBy_33 rfl rfl (rf_some _) ?_
  refine aw_alo 2 (pcn := 35) rfl dX6_endBy_34 rfl rfl (rf_some _) ?_
  refine aw_ilo 3 (pcn := 36) rfl dX6_endBy_35 rfl rfl ?_
  refine aw_alo 1 (pcn := 37) rfl dX6_endBy_36 rfl rfl (rf_some _) ?_
  obtain ⟨gs, hs, hgs⟩ := hW.st (s := S) vs hc8 hc0
  refine aw_getf (pcn := 40) fl_X6_80 dX6_endBy_37 rfl hs rfl ?_
  refine aw_ilo 3 (pcn := 41) rfl dX6_endBy_40 rfl rfl ?_
  obtain ⟨fs, hsh1, hsh2, hsh3⟩ := hW.sh (s := S) vs
  refine aw_Vi (pcn := 44) (c_get0 hsh1 hsh2 _) mf_X5_get mv_X5_get hsh1 rfl ml_X6_110 rfl (by decide) (by decide) (by decide) (by exact Nat.le_of_ble_eq_true rfl) rfl dX6_endBy_41 rfl (fun r h2 hq => ?_)
  obtain ⟨rfl, hq⟩ := hq
  obtain rfl := hq.symm
  rw [sgT_nI (by decide), hsh3 2 (by decide)]
  refine aw_Vv (pcn := 47) (c_payFrom hW (c := c) vc (by decide) _) mf_X6_payFrom mv_X6_payFrom hW.sc rfl ml_X6_242 rfl (by decide) (by decide) (by decide) (by exact Nat.le_of_ble_eq_true rfl) rfl dX6_endBy_44 rfl (fun h hW => ?_)
  obtain ⟨hW, hk⟩ := hW
  refine aw_iinc (v := nI 3) (pcn := 50) dX6_endBy_47 rfl (by decide) rfl (by decide) ?_
  dsimp only [List.set_cons_zero, List.set_cons_succ]
  refine aw_goto (t := 27) dX6_endBy_50 (by decide) ?_
  refine aw_ilo 3 (pcn := 28) rfl dX6_endBy_27 rfl rfl ?_
  refine aw_bipush (v := nI 6) (pcn := 30) dX6_endBy_28 rfl (by decide) ?_
  refine aw_icmp_ge (t := 53) (pcn := 33) dX6_endBy_30 rfl (by decide) (fun q4 => absurd q4 (by decide)) (fun q4 => ?_)
  refine aw_alo 0 (pcn := 34) rfl dX6_endBy_33 rfl rfl (rf_some _) ?_
  refine aw_alo 2 (pcn := 35) rfl dX6_endBy_34 rfl rfl (rf_some _) ?_
  refine aw_ilo 3 (pcn := 36) rfl dX6_endBy_35 rfl rfl ?_
  refine aw_alo 1 (pcn := 37) rfl dX6_endBy_36 rfl rfl (rf_some _) ?_
  obtain ⟨gs, hs, hgs⟩ := hW.st (s := S) vs hc8 hc0
  refine aw_getf (pcn := 40) fl_X6_80 dX6_endBy_37 rfl hs rfl ?_
  refine aw_ilo 3 (pcn := 41) rfl dX6_endBy_40 rfl rfl ?_
  obtain ⟨fs, hsh1, hsh2, hsh3⟩ := hW.sh (s := S) vs
  refine aw_Vi (pcn := 44) (c_get0 hsh1 hsh2 _) mf_X5_get mv_X5_get hsh1 rfl ml_X6_110 rfl (by decide) (by decide) (by decide) (by exact Nat.le_of_ble_eq_true rfl) rfl dX6_endBy_41 rfl (fun r h2 hq => ?_)
  obtain ⟨rfl, hq⟩ := hq
  obtain rfl := hq.symm
  rw [sgT_nI (by decide), hsh3 3 (by decide)]
  refine aw_Vv (pcn := 47) (c_payFrom hW (c := c) vc (by decide) _) mf_X6_payFrom mv_X6_payFrom hW.sc rfl ml_X6_242 rfl (by decide) (by decide) (by decide) (by exact Nat.le_of_ble_eq_true rfl) rfl dX6_endBy_44 rfl (fun h hW => ?_)
  obtain ⟨hW, hk⟩ := hW
  refine aw_iinc (v := nI 4) (pcn := 50) dX6_endBy_47 rfl (by decide) rfl (by decide) ?_
  dsimp only [List.set_cons_zero, List.set_cons_succ]
  refine aw_goto (t := 27) dX6_endBy_50 (by decide) ?_
  refine aw_ilo 3 (pcn := 28) rfl dX6_endBy_27 rfl rfl ?_
  refine aw_bipush (v := nI 6) (pcn := 30) dX6_endBy_28 rfl (by decide) ?_
  refine aw_icmp_ge (t := 53) (pcn := 33) dX6_endBy_30 rfl (by decide) (fun q5 => absurd q5 (by decide)) (fun q5 => ?_)
  refine aw_alo 0 (pcn := 34) rfl dX6_endBy_33 rfl rfl (rf_some _) ?_
  refine aw_alo 2 (pcn := 35) rfl dX6_endBy_34 rfl rfl (rf_some _) ?_
  refine aw_ilo 3 (pcn := 36) rfl dX6_endBy_35 rfl rfl ?_
  refine aw_alo 1 (pcn := 37) rfl dX6_endBy_36 rfl rfl (rf_some _) ?_
  obtain ⟨gs, hs, hgs⟩ := hW.st (s := S) vs hc8 hc0
  refine aw_getf (pcn := 40) fl_X6_80 dX6_endBy_37 rfl hs rfl ?_
  refine aw_ilo 3 (pcn := 41) rfl dX6_endBy_40 rfl rfl ?_
  obtain ⟨fs, hsh1, hsh2, hsh3⟩ := hW.sh (s := S) vs
  refine aw_Vi (pcn := 44) (c_get0 hsh1 hsh2 _) mf_X5_get mv_X5_get hsh1 rfl ml_X6_110 rfl (by decide) (by decide) (by decide) (by exact Nat.le_of_ble_eq_true rfl) rfl dX6_endBy_41 rfl (fun r h2 hq => ?_)
  obtain ⟨rfl, hq⟩ := hq
  obtain rfl := hq.symm
  rw [sgT_nI (by decide), hsh3 4 (by decide)]
  refine aw_Vv (pcn := 47) (c_payFrom hW (c := c) vc (by decide) _) mf_X6_payFrom mv_X6_payFrom hW.sc rfl ml_X6_242 rfl (by decide) (by decide) (by decide) (by exact Nat.le_of_ble_eq_true rfl) rfl dX6_endBy_44 rfl (fun h hW => ?_)
  obtain ⟨hW, hk⟩ := hW
  refine aw_iinc (v := nI 5) (pcn := 50) dX6_endBy_47 rfl (by decide) rfl (by decide) ?_
  dsimp only [List.set_cons_zero, List.set_cons_succ]
  refine aw_goto (t := 27) dX6_endBy_50 (by decide) ?_
  refine aw_ilo 3 (pcn := 28) rfl dX6_endBy_27 rfl rfl ?_
  refine aw_bipush (v := nI 6) (pcn := 30) dX6_endBy_28 rfl (by decide) ?_
  refine aw_icmp_ge (t := 53) (pcn := 33) dX6_endBy_30 rfl (by decide) (fun q6 => absurd q6 (by decide)) (fun q6 => ?_)
  refine aw_alo 0 (pcn := 34) rfl dX6_endBy_33 rfl rfl (rf_some _) ?_
  refine aw_alo 2 (pcn := 35) rfl dX6_endBy_34 rfl rfl (rf_some _) ?_
  refine aw_ilo 3 (pcn := 36) rfl dX6_endBy_35 rfl rfl ?_
  refine aw_alo 1 (pcn := 37) rfl dX6_endBy_36 rfl rfl (rf_some _) ?_
  obtain ⟨gs, hs, hgs⟩ := hW.st (s := S) vs hc8 hc0
  refine aw_getf (pcn := 40) fl_X6_80 dX6_endBy_37 rfl hs rfl ?_
  refine aw_ilo 3 (pcn := 41) rfl dX6_endBy_40 rfl rfl ?_
  obtain ⟨fs, hsh1, hsh2, hsh3⟩ := hW.sh (s := S) vs
  refine aw_Vi (pcn := 44) (c_get0 hsh1 hsh2 _) mf_X5_get mv_X5_get hsh1 rfl ml_X6_110 rfl (by decide) (by decide) (by decide) (by exact Nat.le_of_ble_eq_true rfl) rfl dX6_endBy_41 rfl (fun r h2 hq => ?_)
  obtain ⟨rfl, hq⟩ := hq
  obtain rfl := hq.symm
  rw [sgT_nI (by decide), hsh3 5 (by decide)]
  refine aw_Vv (pcn := 47) (c_payFrom hW (c := c) vc (by decide) _) mf_X6_payFrom mv_X6_payFrom hW.sc rfl ml_X6_242 rfl (by decide) (by decide) (by decide) (by exact Nat.le_of_ble_eq_true rfl) rfl dX6_endBy_44 rfl (fun h hW => ?_)
  obtain ⟨hW, hk⟩ := hW
  refine aw_iinc (v := nI 6) (pcn := 50) dX6_endBy_47 rfl (by decide) rfl (by decide) ?_
  dsimp only [List.set_cons_zero, List.set_cons_succ]
  refine aw_goto (t := 27) dX6_endBy_50 (by decide) ?_
  refine aw_ilo 3 (pcn := 28) rfl dX6_endBy_27 rfl rfl ?_
  refine aw_bipush (v := nI 6) (pcn := 30) dX6_endBy_28 rfl (by decide) ?_
  refine aw_icmp_ge (t := 53) (pcn := 33) dX6_endBy_30 rfl (by decide) (fun q7 => ?_) (fun q7 => absurd (by decide) q7)
  refine aw_iconst (v := nI 0) (pcn := 54) dX6_endBy_53 rfl (by decide) ?_
  refine aw_ist 3 (pcn := 55) rfl dX6_endBy_54 rfl (by decide) ?_
  dsimp only [List.set_cons_zero, List.set_cons_succ]
  have hW : WD Γ ow h (eShT (ecA T c S) c S 6) Tr nh := hW
  have body : ∀ (k : Nat), k < 3 → ∀ (T1 : TB) (h : Hp), WD Γ ow h T1 Tr nh → (∀ x, T1 19 x = T 19 x) → T1 5 0 = T 5 0 → T1 18 0 = T 18 0 → (T1 12 c ||| shiT k = T1 12 c + shiT k) → (∀ h, WD Γ ow h (eLkT T1 c S k) Tr nh → AW X l cX6_endBy RX6 "endBy" (none) 4 3 none (qv fun h' => WD Γ ow h' (endT T c S) Tr nh) 0 0 55 [some (.ref (Γ 0 0)), some (.ref (Γ 8 S)), some (.ref (Γ 7 c)), some (.int (nI (k + 1)))] [] h) → AW X l cX6_endBy RX6 "endBy" (none) 4 3 none (qv fun h' => WD Γ ow h' (endT T c S) Tr nh) 0 0 55 [some (.ref (Γ 0 0)), some (.ref (Γ 8 S)), some (.ref (Γ 7 c)), some (.int (nI (k)))] [] h := by
    intro k hk T1 h hW h19 h5 h18 hor kk
    have vc : c < ix (T1 5 0) := by rw [h5]; exact vc
    have vs : S < ix (T1 18 0) := by rw [h18]; exact vs
    have hc0 : T1 19 (35 * S + 0) = nI c := by rw [h19]; exact hc0
    refine aw_ilo 3 (pcn := 56) rfl dX6_endBy_55 rfl rfl ?_
    refine aw_iconst (v := nI 3) (pcn := 57) dX6_endBy_56 rfl (by decide) ?_
    refine aw_icmp_ge (t := 77) (pcn := 60) dX6_endBy_57 rfl (by decide) (fun q => absurd q (nI_ge hk (by decide))) (fun _ => ?_)
    refine aw_alo 0 (pcn := 61) rfl dX6_endBy_60 rfl rfl (rf_some _) ?_
    refine aw_alo 2 (pcn := 62) rfl dX6_endBy_61 rfl rfl (rf_some _) ?_
    refine aw_ilo 3 (pcn := 63) rfl dX6_endBy_62 rfl rfl ?_
    refine aw_alo 1 (pcn := 64) rfl dX6_endBy_63 rfl rfl (rf_some _) ?_
    refine aw_ilo 3 (pcn := 65) rfl dX6_endBy_64 rfl rfl ?_
    obtain ⟨gs, hs, hgs⟩ := hW.st (s := S) vs hc8 hc0
    refine aw_Vr (pcn := 68) (c_lockAtR hW (S := S) (K := k) vs hk) mf_X4_lockAt mv_X4_lockAt hs rfl ml_X6_153 rfl (by decide) (by decide) (by decide) (by exact Nat.le_of_ble_eq_true rfl) rfl dX6_endBy_65 rfl (fun r h2 hq => ?_)
    obtain ⟨hq, hh⟩ := hq
    obtain rfl := hh.symm
    have hr := hq
    refine aw_Vv (pcn := 71) (c_hogb hW (c := c) (K := k) vc hr (fun q => by rw [show lkT T1 S k 1 = lkT T S k 1 from h19 _]; exact hfr k hk)) mf_X6_holdOrGiveBack mv_X6_holdOrGiveBack hW.sc rfl ml_X6_246 rfl (by decide) (by decide) (by decide) (by exact Nat.le_of_ble_eq_true rfl) rfl dX6_endBy_68 rfl (fun h hW => ?_)
    refine aw_iincN (pcn := 74) dX6_endBy_71 rfl (by decide) rfl ?_
    dsimp only [List.set_cons_zero, List.set_cons_succ]
    refine aw_goto (t := 55) dX6_endBy_74 (by decide) ?_
    refine kk h ?_
    have e := hgT_eLk (T := T1) (c := c) (s := S) (k := k) (by rw [h19]; exact hm k hk) hor
    rw [← e]; exact hW
  have a19 : ∀ x, eShT (ecA T c S) c S 6 19 x = T 19 x := fun x => by rw [eShT_j _ _ _ _ _ (by decide) (by decide)]; unfold ecA; rw [up_j _ _ _ _ (by decide), up_j _ _ _ _ (by decide), up_j _ _ _ _ (by decide), up_j _ _ _ _ (by decide)]
  have aj : ∀ j x, j = 2 ∨ j = 5 ∨ j = 18 ∨ j = 12 → eShT (ecA T c S) c S 6 j x = T j x := fun j x hj => by rw [eShT_j _ _ _ _ _ (by omega) (by omega)]; unfold ecA; rw [up_j _ _ _ _ (by omega), up_j _ _ _ _ (by omega), up_j _ _ _ _ (by omega), up_j _ _ _ _ (by omega)]
  have l19 : ∀ (T1 : TB) k, (∀ x, T1 19 x = T 19 x) → ∀ x, eLkT T1 c S k 19 x = T 19 x := fun T1 k q x => by rw [eLkT_j _ _ _ _ _ (by decide) (by decide) (by decide)]; exact q x
  have lj : ∀ (T1 : TB) k j, j = 2 ∨ j = 5 ∨ j = 18 → T1 j 0 = T j 0 → eLkT T1 c S k j 0 = T j 0 := fun T1 k j hj q => by rw [eLkT_j _ _ _ _ _ (by omega) (by omega) (by omega)]; exact q
  obtain ⟨o0, o1, o2⟩ := bits_or3
  obtain ⟨b0, e0, _⟩ := hp1_b T S 0
  obtain ⟨b1, e1, _⟩ := hp1_b T S 1
  have s0 : eShT (ecA T c S) c S 6 12 c = nI 0 := (aj 12 c (by omega)).trans h12
  have s1 : eLkT (eShT (ecA T c S) c S 6) c S 0 12 c = nI 0 + (if b0 then shiT 0 else 0) := by rw [eLk_12 a19 (aj 2 0 (by omega)), s0, e0]
  have s2 : eLkT (eLkT (eShT (ecA T c S) c S 6) c S 0) c S 1 12 c = nI 0 + (if b0 then shiT 0 else 0) + (if b1 then shiT 1 else 0) := by rw [eLk_12 (l19 _ 0 a19) (lj _ 0 2 (by omega) (aj 2 0 (by omega))), s1, e1]
  refine body 0 (by decide) _ h hW a19 (aj 5 0 (by omega)) (aj 18 0 (by omega)) (by rw [s0]; exact o0) (fun h hW => ?_)
  refine body 1 (by decide) _ h hW (l19 _ 0 a19) (lj _ 0 5 (by omega) (aj 5 0 (by omega))) (lj _ 0 18 (by omega) (aj 18 0 (by omega))) (by rw [s1]; exact o1 b0) (fun h hW => ?_)
  refine body 2 (by decide) _ h hW (l19 _ 1 (l19 _ 0 a19)) (lj _ 1 5 (by omega) (lj _ 0 5 (by omega) (aj 5 0 (by omega)))) (lj _ 1 18 (by omega) (lj _ 0 18 (by omega) (aj 18 0 (by omega)))) (by rw [s2]; exact o2 b0 b1) (fun h hW => ?_)
  have hW : WD Γ ow h (ecD T c S) Tr nh := hW
  have d19 : ∀ x, ecD T c S 19 x = T 19 x := l19 _ 2 (l19 _ 1 (l19 _ 0 a19))
  have dj : ∀ j, j = 2 ∨ j = 5 ∨ j = 18 → ecD T c S j 0 = T j 0 := fun j hj => lj _ 2 j hj (lj _ 1 j hj (lj _ 0 j hj (aj j 0 (by omega))))
  have d7 : ecD T c S 7 c = T 7 c := by unfold ecD ecA; rw [eLkT_j _ _ _ _ _ (by decide) (by decide) (by decide), eLkT_j _ _ _ _ _ (by decide) (by decide) (by decide), eLkT_j _ _ _ _ _ (by decide) (by decide) (by decide), eShT_j _ _ _ _ _ (by decide) (by decide), up_j _ _ _ _ (by decide), up_j _ _ _ _ (by decide), up_j _ _ _ _ (by decide), up_j _ _ _ _ (by decide)]
  generalize hDe : ecD T c S = D at hW d19 dj d7
  have vc : c < ix (D 5 0) := by rw [dj 5 (by omega)]; exact vc
  have vs : S < ix (D 18 0) := by rw [dj 18 (by omega)]; exact vs
  have hc0 : D 19 (35 * S + 0) = nI c := by rw [d19]; exact hc0
  refine aw_ilo 3 (pcn := 56) rfl dX6_endBy_55 rfl rfl ?_
  refine aw_iconst (v := nI 3) (pcn := 57) dX6_endBy_56 rfl (by decide) ?_
  refine aw_icmp_ge (t := 77) (pcn := 60) dX6_endBy_57 rfl (by decide) (fun q8 => ?_) (fun q8 => absurd (by decide) q8)
  refine aw_alo 2 (pcn := 78) rfl dX6_endBy_77 rfl rfl (rf_some _) ?_
  refine aw_alo 1 (pcn := 79) rfl dX6_endBy_78 rfl rfl (rf_some _) ?_
  obtain ⟨gs, hs, hgs⟩ := hW.st (s := S) vs hc8 hc0
  refine aw_getf (pcn := 82) fl_X6_170 dX6_endBy_79 rfl hs rfl ?_
  obtain ⟨g, hc, hg⟩ := hW.ch (c := c) vc
  refine aw_putC (pcn := 85) (T' := gmU D c (D 19 (35 * S + 31)) (D 19 (35 * S + 32)) (D 19 (35 * S + 33)) (D 19 (35 * S + 34))) hW vc hc fp_X6_250 (by decide) (VF.o _ _) (cs_10 _ _ _ _ _ _ _ _ _) (hW.chG vc (g := g) hgs) dX6_endBy_82 rfl (fun h hW hk => ?_)
  have vc : c < ix (gmU D c (D 19 (35 * S + 31)) (D 19 (35 * S + 32)) (D 19 (35 * S + 33)) (D 19 (35 * S + 34)) 5 0) := vc
  have vs : S < ix (gmU D c (D 19 (35 * S + 31)) (D 19 (35 * S + 32)) (D 19 (35 * S + 33)) (D 19 (35 * S + 34)) 18 0) := vs
  have hc0 : gmU D c (D 19 (35 * S + 31)) (D 19 (35 * S + 32)) (D 19 (35 * S + 33)) (D 19 (35 * S + 34)) 19 (35 * S + 0) = nI c := hc0
  refine aw_alo 2 (pcn := 86) rfl dX6_endBy_85 rfl rfl (rf_some _) ?_
  refine aw_alo 1 (pcn := 87) rfl dX6_endBy_86 rfl rfl (rf_some _) ?_
  obtain ⟨gs, hs, hgs⟩ := hW.st (s := S) vs hc8 hc0
  refine aw_getf (pcn := 90) fl_X6_170 dX6_endBy_87 rfl hs rfl ?_
  refine aw_ifnonnull (t := 97) (pcn := 93) dX6_endBy_90 rfl (by decide) rfl (fun a10 q9 => ?_) (fun q9 => ?_)
  · have hz := hgs.s q9
    refine aw_alo 0 (pcn := 98) rfl dX6_endBy_97 rfl rfl (rf_some _) ?_
    refine aw_getf (pcn := 101) fl_X6_224 dX6_endBy_98 rfl hW.sc rfl ?_
    refine aw_alo 2 (pcn := 102) rfl dX6_endBy_101 rfl rfl (rf_some _) ?_
    obtain ⟨g, hc, hg⟩ := hW.ch (c := c) vc
    refine aw_getf (pcn := 105) fl_X6_227 dX6_endBy_102 rfl hc rfl ?_
    refine aw_iadd (pcn := 106) dX6_endBy_105 rfl ?_
    obtain ⟨g, hc, hg⟩ := hW.ch (c := c) vc
    refine aw_putC (pcn := 109) hW vc hc fp_X6_253 (by decide) (VF.i _) (cs_11 _ _ _ _ _) (hW.chW vc hg (j := 27) (by omega)) dX6_endBy_106 rfl (fun h hW hk => ?_)
    obtain ⟨g, hc, hg⟩ := hW.ch (c := c) vc
    exact aw_ret dX6_endBy_109 rfl ⟨rfl, by
        rw [← ecF_eq h12]
        refine WD.fr17 ?_
        unfold ecF
        rw [hDe, ← d19 (35 * S + 31), ← d19 (35 * S + 32), ← d19 (35 * S + 33), ← d19 (35 * S + 34), ← dj 2 (by omega), ← d7]
        first | (rw [if_pos (show D 19 (35 * S + 31) = 0 from hz), ← nI_0]; exact hW) | (rw [if_neg (show ¬ D 19 (35 * S + 31) = 0 from hz.1)]; exact hW)⟩
  · have hz := hgs.n q9
    refine aw_iconst (v := nI 0) (pcn := 94) dX6_endBy_93 rfl (by decide) ?_
    refine aw_goto (t := 106) dX6_endBy_94 (by decide) ?_
    obtain ⟨g, hc, hg⟩ := hW.ch (c := c) vc
    refine aw_putC (pcn := 109) hW vc hc fp_X6_253 (by decide) (VF.i _) (cs_11 _ _ _ _ _) (hW.chW vc hg (j := 27) (by omega)) dX6_endBy_106 rfl (fun h hW hk => ?_)
    obtain ⟨g, hc, hg⟩ := hW.ch (c := c) vc
    exact aw_ret dX6_endBy_109 rfl ⟨rfl, by
        rw [← ecF_eq h12]
        refine WD.fr17 ?_
        unfold ecF
        rw [hDe, ← d19 (35 * S + 31), ← d19 (35 * S + 32), ← d19 (35 * S + 33), ← d19 (35 * S + 34), ← dj 2 (by omega), ← d7]
        first | (rw [if_pos (show D 19 (35 * S + 31) = 0 from hz), ← nI_0]; exact hW) | (rw [if_neg (show ¬ D 19 (35 * S + 31) = 0 from hz.1)]; exact hW)⟩
