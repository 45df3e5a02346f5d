/-! the class: copies, locks put and taken -/
theorem stG_gs (Γ : NM) (T : TB) (g : Option Nat) (s c : Nat) (a b d e : Int32) : stG Γ (gsU T s a b d e) g s c = stG Γ T g s c := by simp [stG, gsU, up]
section AWL
variable {X : XG} {l : Launch} {cc : ByteArray} {own nm : String} {rt : Option FieldType} {nL fr : Nat} {scr : Scr} {Q : Post} {k n pc pcn : Nat} {L : List (Option Value)} {st : List Value} {h : Hp}
variable {Γ : NM} {ow : Nat → Nat × Nat} {T T' Tr : TB} {nh : Nat}
theorem aw_aastL {S m : Nat} {r : Option Nat} {fl : Nat → Option Nat} {mu fr0 to se ex : Int32} (hW : WD Γ ow h T Tr nh) (vs : S < ix (T 18 0)) (hl1 : h (Γ 13 S) = some (ra 3 3 fl)) (hl2 : ∀ k, k < 3 → LkOK h (fl k) (lkT T S k 0) (lkT T S k 1) (lkT T S k 2) (lkT T S k 3) (lkT T S k 4)) (hm : m < 3) (hr : LkOK h r mu fr0 to se ex)
    (hd : decode cc pc = .ok (.aastore, 1)) (hp : pcn = pc + 1) (kk : ∀ h', WD Γ ow h' (lsU T S m mu fr0 to se ex) Tr nh → Kp h h' → AW X l cc own nm rt nL fr scr Q k n pcn L st h') : AW X l cc own nm rt nL fr scr Q k n pc L (va_rf r :: .int (nI m) :: .ref (Γ 13 S) :: st) h := by
  have e := hW.lkW vs hl2 hm hr
  have kp := hW.kpp (v8 vs (show 8 ≤ 13 by decide) (show 13 ≤ 13 by decide)) (ra 3 3 (fun q => if q = m then r else fl q))
  cases r with
  | none => exact aw_aastN hd hp hl1 (by decide) (vp_in_nI hm (by decide)) (by rw [nI_clamp (by omega)]; exact kk _ e kp)
  | some a => exact aw_aast hd hp hl1 (by decide) (vp_in_nI hm (by decide)) (hr.s rfl).2 (by rw [nI_clamp (by omega)]; exact kk _ e kp)
end AWL
/-- shares of the state s come to the state S, by parties -/
def cfS (T : TB) (S s : Nat) : Nat → TB
  | 0 => T
  | p + 1 => up (cfS T S s p) 19 (35 * S + 4 + p) (cfS T S s p 19 (35 * s + 4 + p))
def cfL1 (A : TB) (S s k : Nat) : TB := lsU A S k (lkT A s k 0) (lkT A s k 1) (lkT A s k 2) (lkT A s k 3) (lkT A s k 4)
def cfG (A : TB) (S s : Nat) : TB := gsU A S (A 19 (35 * s + 31)) (A 19 (35 * s + 32)) (A 19 (35 * s + 33)) (A 19 (35 * s + 34))
def cfT (T : TB) (S s : Nat) : TB := cfG (cfL1 (cfL1 (cfL1 (cfS T S s 6) S s 0) S s 1) S s 2) S s
theorem cfS_v (T : TB) {S s m : Nat} (hne : s ≠ S) (hm : m ≤ 6) : (∀ p, p < m → cfS T S s m 19 (35 * S + 4 + p) = T 19 (35 * s + 4 + p)) ∧ ∀ j x, ¬ (j = 19 ∧ 35 * S + 4 ≤ x ∧ x < 35 * S + 4 + m) → cfS T S s m j x = T j x := by
  induction m with
  | zero => exact ⟨fun p h => by omega, fun j x _ => rfl⟩
  | succ m ih =>
    obtain ⟨i1, i2⟩ := ih (by omega)
    refine ⟨fun p h => ?_, fun j x h => ?_⟩
    · rw [cfS]
      by_cases e : p = m
      · subst e; rw [up_s, i2 _ _ (by omega)]
      · rw [up_i _ _ _ (by omega)]; exact i1 p (by omega)
    · rw [cfS, up_x (by omega)]
      exact i2 j x (by omega)
theorem cfL1_v (A : TB) {S s k : Nat} (hk : k < 3) : (∀ j, j < 5 → cfL1 A S s k 19 (35 * S + 16 + 5 * k + j) = A 19 (35 * s + 16 + 5 * k + j)) ∧ ∀ j x, ¬ (j = 19 ∧ 35 * S + 16 + 5 * k ≤ x ∧ x < 35 * S + 16 + 5 * k + 5) → cfL1 A S s k j x = A j x := by
  refine ⟨fun j hj => ?_, fun j x h => ?_⟩
  · unfold cfL1
    rcases (show j = 0 ∨ j = 1 ∨ j = 2 ∨ j = 3 ∨ j = 4 by omega) with rfl | rfl | rfl | rfl | rfl <;> simp [lsU, up, lkT]
  · unfold cfL1 lsU
    rw [up_x (by omega), up_x (by omega), up_x (by omega), up_x (by omega), up_x (by omega)]
theorem cfT_eq {T : TB} {c n s : Nat} (hs : s < n) : cfT (blkT T c n) n s = copT T c n s := by
  obtain ⟨e0, e1, e2, e3, e4, e5, e6, e7, e8, e9, e10⟩ := copT_v T c hs
  obtain ⟨b0, b1, b33, b34, bz, bo, b18, b24, bj⟩ := blkT_v T c n
  obtain ⟨s1, s2⟩ := cfS_v (blkT T c n) (S := n) (s := s) (m := 6) (by omega) (Nat.le_refl 6)
  obtain ⟨p1, p2⟩ := cfL1_v (cfS (blkT T c n) n s 6) (S := n) (s := s) (k := 0) (by decide)
  obtain ⟨q1, q2⟩ := cfL1_v (cfL1 (cfS (blkT T c n) n s 6) n s 0) (S := n) (s := s) (k := 1) (by decide)
  obtain ⟨r1, r2⟩ := cfL1_v (cfL1 (cfL1 (cfS (blkT T c n) n s 6) n s 0) n s 1) (S := n) (s := s) (k := 2) (by decide)
  have old : ∀ y, 35 * s ≤ y → y < 35 * s + 35 → blkT T c n 19 y = T 19 y := fun y h1 h2 => bo y (by omega)
  unfold cfT cfG
  obtain ⟨g1, g2, g3, g4⟩ := gsU_v (cfL1 (cfL1 (cfL1 (cfS (blkT T c n) n s 6) n s 0) n s 1) n s 2) n (cfL1 (cfL1 (cfL1 (cfS (blkT T c n) n s 6) n s 0) n s 1) n s 2 19 (35 * s + 31)) (cfL1 (cfL1 (cfL1 (cfS (blkT T c n) n s 6) n s 0) n s 1) n s 2 19 (35 * s + 32)) (cfL1 (cfL1 (cfL1 (cfS (blkT T c n) n s 6) n s 0) n s 1) n s 2 19 (35 * s + 33)) (cfL1 (cfL1 (cfL1 (cfS (blkT T c n) n s 6) n s 0) n s 1) n s 2 19 (35 * s + 34))
  have src : ∀ y, 35 * s ≤ y → y < 35 * s + 35 → cfL1 (cfL1 (cfL1 (cfS (blkT T c n) n s 6) n s 0) n s 1) n s 2 19 y = T 19 y := fun y h1 h2 => by
    rw [r2 _ _ (by omega), q2 _ _ (by omega), p2 _ _ (by omega), s2 _ _ (by omega), old y h1 h2]
  funext j x
  by_cases hj : j = 19
  · subst hj
    by_cases hx : 35 * n ≤ x ∧ x < 35 * n + 35
    · obtain ⟨o, rfl⟩ : ∃ o, x = 35 * n + o := ⟨x - 35 * n, by omega⟩
      have ho : o < 35 := by omega
      by_cases a : 31 ≤ o
      · rw [e6 o (by omega) ho]
        rcases (show o = 31 ∨ o = 32 ∨ o = 33 ∨ o = 34 by omega) with rfl | rfl | rfl | rfl
        · rw [g1]; exact src _ (by omega) (by omega)
        · rw [g2]; exact src _ (by omega) (by omega)
        · rw [g3]; exact src _ (by omega) (by omega)
        · rw [g4]; exact src _ (by omega) (by omega)
      · rw [gsU_o (by omega)]
        by_cases b : 16 ≤ o
        · rw [e6 o b ho]
          by_cases k2 : 26 ≤ o
          · rw [show 35 * n + o = 35 * n + 16 + 5 * 2 + (o - 26) by omega, r1 (o - 26) (by omega), q2 _ _ (by omega), p2 _ _ (by omega), s2 _ _ (by omega), old _ (by omega) (by omega)]
            congr 1; omega
          · rw [r2 _ _ (by omega)]
            by_cases k1 : 21 ≤ o
            · rw [show 35 * n + o = 35 * n + 16 + 5 * 1 + (o - 21) by omega, q1 (o - 21) (by omega), p2 _ _ (by omega), s2 _ _ (by omega), old _ (by omega) (by omega)]
              congr 1; omega
            · rw [q2 _ _ (by omega), show 35 * n + o = 35 * n + 16 + 5 * 0 + (o - 16) by omega, p1 (o - 16) (by omega), s2 _ _ (by omega), old _ (by omega) (by omega)]
              congr 1; omega
        · rw [r2 _ _ (by omega), q2 _ _ (by omega), p2 _ _ (by omega)]
          by_cases d : 10 ≤ o
          · rw [s2 _ _ (by omega), bz o (by omega) (by omega), show 35 * n + o = 35 * n + 10 + (o - 10) by omega, e5 (o - 10) (by omega)]
          · by_cases f : 4 ≤ o
            · rw [show 35 * n + o = 35 * n + 4 + (o - 4) by omega, s1 (o - 4) (by omega), e4 (o - 4) (by omega), old _ (by omega) (by omega)]
            · rw [s2 _ _ (by omega)]
              rcases (show o = 0 ∨ o = 1 ∨ o = 2 ∨ o = 3 by omega) with rfl | rfl | rfl | rfl
              · rw [b0, e0]
              · rw [b1, e1]
              · rw [bz 2 (by decide) (by decide), e2]
              · rw [bz 3 (by decide) (by decide), e3]
    · rw [gsU_o (by omega), r2 _ _ (by omega), q2 _ _ (by omega), p2 _ _ (by omega), s2 _ _ (by omega), bo x (by omega), e7 x (by omega)]
  · rw [gsU_o (by omega), r2 _ _ (by omega), q2 _ _ (by omega), p2 _ _ (by omega), s2 _ _ (by omega)]
    by_cases a : j = 18 ∧ x = 0
    · rw [a.1, a.2, b18, e8]
    · by_cases b : j = 24 ∧ x = c
      · rw [b.1, b.2, b24, e9]
      · rw [bj j x hj a b, e10 j x hj a b]
set_option maxHeartbeats 1600000 in
set_option maxRecDepth 20000 in
theorem c_copyFrom {X : XG} {l : Launch} {Γ : NM} {ow : Nat → Nat × Nat} {h : Hp} {T Tr : TB} {nh : Nat} (hW : WD Γ ow h T Tr nh) {S s c : Nat} (vs : S < ix (T 18 0)) (vb : s < ix (T 18 0)) (hne : s ≠ S) (hc8 : c < 8) (hc0 : T 19 (35 * S + 0) = nI c) : AM X l yX4_copyFrom cX4_copyFrom 3 (none) 1 0 0 [.ref (Γ 8 S), .ref (Γ 8 s)] h (qv fun h' => WD Γ ow h' (cfT T S s) Tr nh ∧ Kp h h') := by
  refine AM.of (by decide +kernel) (by simp [Value.category]) (Nat.le_of_ble_eq_true rfl) ?_
  show AW X l cX4_copyFrom RX4 "copyFrom" (none) 3 1 none _ 0 0 0 [some (.ref (Γ 8 S)), some (.ref (Γ 8 s)), none] [] h
  obtain ⟨h00, e00⟩ : ∃ x, x = h := ⟨_, rfl⟩
  have hK : Kp h00 h := by rw [e00]; exact Kp.rfl
  refine AW.post (Q' := qv fun h' => WD Γ ow h' (cfT T S s) Tr nh ∧ Kp h00 h') (fun v h' q => by rw [← e00]; exact q) ?_
  refine aw_iconst (v := nI 0) (pcn := 1) dX4_copyFrom_0 rfl (by decide) ?_
  refine aw_ist 2 (pcn := 2) rfl dX4_copyFrom_1 rfl (by decide) ?_
  dsimp only [List.set_cons_zero, List.set_cons_succ]
  have body : ∀ (p : Nat), p < 6 → ∀ (A : TB) (h : Hp), Kp h00 h → WD Γ ow h A Tr nh → S < ix (A 18 0) → s < ix (A 18 0) → (∀ h, Kp h00 h → WD Γ ow h (up A 19 (35 * S + 4 + p) (A 19 (35 * s + 4 + p))) Tr nh → AW X l cX4_copyFrom RX4 "copyFrom" (none) 3 1 none (qv fun h' => WD Γ ow h' (cfT T S s) Tr nh ∧ Kp h00 h') 0 0 2 [some (.ref (Γ 8 S)), some (.ref (Γ 8 s)), some (.int (nI (p + 1)))] [] h) → AW X l cX4_copyFrom RX4 "copyFrom" (none) 3 1 none (qv fun h' => WD Γ ow h' (cfT T S s) Tr nh ∧ Kp h00 h') 0 0 2 [some (.ref (Γ 8 S)), some (.ref (Γ 8 s)), some (.int (nI (p)))] [] h := by
    intro p hp A h hK hW vs vb kk
    refine aw_ilo 2 (pcn := 3) rfl dX4_copyFrom_2 rfl rfl ?_
    refine aw_bipush (v := nI 6) (pcn := 5) dX4_copyFrom_3 rfl (by decide) ?_
    refine aw_icmp_ge (t := 30) (pcn := 8) dX4_copyFrom_5 rfl (by decide) (fun q => absurd q (nI_ge hp (by decide))) (fun _ => ?_)
    refine aw_alo 0 (pcn := 9) rfl dX4_copyFrom_8 rfl rfl (rf_some _) ?_
    obtain ⟨gs, hs, hgs⟩ := hW.st' (s := S) vs
    refine aw_getf (pcn := 12) fl_X4_12 dX4_copyFrom_9 rfl hs rfl ?_
    refine aw_ilo 2 (pcn := 13) rfl dX4_copyFrom_12 rfl rfl ?_
    refine aw_alo 1 (pcn := 14) rfl dX4_copyFrom_13 rfl rfl (rf_some _) ?_
    obtain ⟨gb, hb0, hgb⟩ := hW.st' (s := s) vb
    refine aw_getf (pcn := 17) fl_X4_12 dX4_copyFrom_14 rfl hb0 rfl ?_
    refine aw_ilo 2 (pcn := 18) rfl dX4_copyFrom_17 rfl rfl ?_
    obtain ⟨fb, hbh1, hbh2, hbh3⟩ := hW.sh (s := s) vb
    refine aw_Vi (pcn := 21) (c_get0 hbh1 hbh2 _) mf_X5_get mv_X5_get hbh1 rfl ml_X4_38 rfl (by decide) (by decide) (by decide) (by exact Nat.le_of_ble_eq_true rfl) rfl dX4_copyFrom_18 rfl (fun r h2 hq => ?_)
    obtain ⟨rfl, hq⟩ := hq
    obtain rfl := hq.symm
    rw [sgT_nI hp, hbh3 p hp]
    obtain ⟨fs, hsh1, hsh2, hsh3⟩ := hW.sh (s := S) vs
    refine aw_Vv (pcn := 24) (c_put0 hsh1 hsh2 hp _) mf_X5_put mv_X5_put hsh1 rfl ml_X4_42 rfl (by decide) (by decide) (by decide) (by exact Nat.le_of_ble_eq_true rfl) rfl dX4_copyFrom_21 rfl (fun h hq => ?_)
    have hK := hK.trans (Kp.put hW hq (v8 vs (by decide) (by decide)))
    have hW := hW.shW vs hsh3 hp (A 19 (35 * s + 4 + p))
    rw [← hq] at hW
    clear hq
    refine aw_iincN (pcn := 27) dX4_copyFrom_24 rfl (by decide) rfl ?_
    dsimp only [List.set_cons_zero, List.set_cons_succ]
    refine aw_goto (t := 2) dX4_copyFrom_27 (by decide) ?_
    exact kk h hK hW
  have cS : ∀ m, m ≤ 6 → cfS T S s m 18 0 = T 18 0 := fun m hm => (cfS_v T hne hm).2 18 0 (by omega)
  refine body 0 (by decide) T h hK hW vs vb (fun h hK hW => ?_)
  refine body 1 (by decide) (cfS T S s 1) h hK hW (by rw [cS 1 (by decide)]; exact vs) (by rw [cS 1 (by decide)]; exact vb) (fun h hK hW => ?_)
  refine body 2 (by decide) (cfS T S s 2) h hK hW (by rw [cS 2 (by decide)]; exact vs) (by rw [cS 2 (by decide)]; exact vb) (fun h hK hW => ?_)
  refine body 3 (by decide) (cfS T S s 3) h hK hW (by rw [cS 3 (by decide)]; exact vs) (by rw [cS 3 (by decide)]; exact vb) (fun h hK hW => ?_)
  refine body 4 (by decide) (cfS T S s 4) h hK hW (by rw [cS 4 (by decide)]; exact vs) (by rw [cS 4 (by decide)]; exact vb) (fun h hK hW => ?_)
  refine body 5 (by decide) (cfS T S s 5) h hK hW (by rw [cS 5 (by decide)]; exact vs) (by rw [cS 5 (by decide)]; exact vb) (fun h hK hW => ?_)
  have hW : WD Γ ow h (cfS T S s 6) Tr nh := hW
  refine aw_ilo 2 (pcn := 3) rfl dX4_copyFrom_2 rfl rfl ?_
  refine aw_bipush (v := nI 6) (pcn := 5) dX4_copyFrom_3 rfl (by decide) ?_
  refine aw_icmp_ge (t := 30) (pcn := 8) dX4_copyFrom_5 rfl (by decide) (fun q1 => ?_) (fun q1 => absurd (by decide) q1)
  refine aw_iconst (v := nI 0) (pcn := 31) dX4_copyFrom_30 rfl (by decide) ?_
  refine aw_ist 2 (pcn := 32) rfl dX4_copyFrom_31 rfl (by decide) ?_
  dsimp only [List.set_cons_zero, List.set_cons_succ]
  have bodyL : ∀ (k : Nat), k < 3 → ∀ (A : TB) (h : Hp), Kp h00 h → WD Γ ow h A Tr nh → S < ix (A 18 0) → s < ix (A 18 0) → (∀ h, Kp h00 h → WD Γ ow h (cfL1 A S s k) Tr nh → AW X l cX4_copyFrom RX4 "copyFrom" (none) 3 1 none (qv fun h' => WD Γ ow h' (cfT T S s) Tr nh ∧ Kp h00 h') 0 0 32 [some (.ref (Γ 8 S)), some (.ref (Γ 8 s)), some (.int (nI (k + 1)))] [] h) → AW X l cX4_copyFrom RX4 "copyFrom" (none) 3 1 none (qv fun h' => WD Γ ow h' (cfT T S s) Tr nh ∧ Kp h00 h') 0 0 32 [some (.ref (Γ 8 S)), some (.ref (Γ 8 s)), some (.int (nI (k)))] [] h := by
    intro k hk3 A h hK hW vs vb kk
    obtain ⟨fl, hl1, hl2⟩ := hW.lk (s := S) vs
    refine aw_ilo 2 (pcn := 33) rfl dX4_copyFrom_32 rfl rfl ?_
    refine aw_alo 0 (pcn := 34) rfl dX4_copyFrom_33 rfl rfl (rf_some _) ?_
    obtain ⟨gs, hs, hgs⟩ := hW.st' (s := S) vs
    refine aw_getf (pcn := 37) fl_X4_23 dX4_copyFrom_34 rfl hs rfl ?_
    refine aw_alenr (v := nI 3) (pcn := 38) dX4_copyFrom_37 rfl hl1 (by decide) (by decide) ?_
    refine aw_icmp_ge (t := 58) (pcn := 41) dX4_copyFrom_38 rfl (by decide) (fun q => absurd q (nI_ge hk3 (by decide))) (fun _ => ?_)
    refine aw_alo 0 (pcn := 42) rfl dX4_copyFrom_41 rfl rfl (rf_some _) ?_
    obtain ⟨gs, hs, hgs⟩ := hW.st' (s := S) vs
    refine aw_getf (pcn := 45) fl_X4_23 dX4_copyFrom_42 rfl hs rfl ?_
    refine aw_ilo 2 (pcn := 46) rfl dX4_copyFrom_45 rfl rfl ?_
    refine aw_alo 1 (pcn := 47) rfl dX4_copyFrom_46 rfl rfl (rf_some _) ?_
    refine aw_ilo 2 (pcn := 48) rfl dX4_copyFrom_47 rfl rfl ?_
    obtain ⟨gb, hb0, hgb⟩ := hW.st' (s := s) vb
    refine aw_Vr (pcn := 51) (c_lockAtR hW (S := s) (K := k) vb hk3) mf_X4_lockAt mv_X4_lockAt hb0 rfl ml_X4_46 rfl (by decide) (by decide) (by decide) (by exact Nat.le_of_ble_eq_true rfl) rfl dX4_copyFrom_48 rfl (fun r h2 hq => ?_)
    obtain ⟨hq, hh⟩ := hq
    obtain rfl := hh.symm
    have hr := hq
    refine aw_aastL (pcn := 52) hW vs hl1 hl2 hk3 hr dX4_copyFrom_51 rfl (fun h hW hk => ?_)
    have hK := hK.trans hk
    refine aw_iincN (pcn := 55) dX4_copyFrom_52 rfl (by decide) rfl ?_
    dsimp only [List.set_cons_zero, List.set_cons_succ]
    refine aw_goto (t := 32) dX4_copyFrom_55 (by decide) ?_
    exact kk h hK hW
  have cL : ∀ (A : TB) k, k < 3 → A 18 0 = T 18 0 → cfL1 A S s k 18 0 = T 18 0 := fun A k hk e => ((cfL1_v A (S := S) (s := s) hk).2 18 0 (by omega)).trans e
  have t0 : cfS T S s 6 18 0 = T 18 0 := cS 6 (by decide)
  have t1 := cL _ 0 (by decide) t0
  have t2 := cL _ 1 (by decide) t1
  have t3 := cL _ 2 (by decide) t2
  refine bodyL 0 (by decide) _ h hK hW (by rw [t0]; exact vs) (by rw [t0]; exact vb) (fun h hK hW => ?_)
  refine bodyL 1 (by decide) _ h hK hW (by rw [t1]; exact vs) (by rw [t1]; exact vb) (fun h hK hW => ?_)
  refine bodyL 2 (by decide) _ h hK hW (by rw [t2]; exact vs) (by rw [t2]; exact vb) (fun h hK hW => ?_)
  have hfin : cfG (cfL1 (cfL1 (cfL1 (cfS T S s 6) S s 0) S s 1) S s 2) S s = cfT T S s := rfl
  have u0 : cfL1 (cfL1 (cfL1 (cfS T S s 6) S s 0) S s 1) S s 2 19 (35 * S + 0) = nI c := by rw [(cfL1_v _ (by decide)).2 _ _ (by omega), (cfL1_v _ (by decide)).2 _ _ (by omega), (cfL1_v _ (by decide)).2 _ _ (by omega), (cfS_v T hne (Nat.le_refl 6)).2 _ _ (by omega)]; exact hc0
  generalize cfL1 (cfL1 (cfL1 (cfS T S s 6) S s 0) S s 1) S s 2 = A at hW t3 hfin u0
  obtain ⟨fl, hl1, hl2⟩ := hW.lk (s := S) (by rw [t3]; exact vs)
  have vs : S < ix (A 18 0) := by rw [t3]; exact vs
  have vb : s < ix (A 18 0) := by rw [t3]; exact vb
  refine aw_ilo 2 (pcn := 33) rfl dX4_copyFrom_32 rfl rfl ?_
  refine aw_alo 0 (pcn := 34) rfl dX4_copyFrom_33 rfl rfl (rf_some _) ?_
  obtain ⟨gs, hs, hgs⟩ := hW.st' (s := S) vs
  refine aw_getf (pcn := 37) fl_X4_23 dX4_copyFrom_34 rfl hs rfl ?_
  refine aw_alenr (v := nI 3) (pcn := 38) dX4_copyFrom_37 rfl hl1 (by decide) (by decide) ?_
  refine aw_icmp_ge (t := 58) (pcn := 41) dX4_copyFrom_38 rfl (by decide) (fun q2 => ?_) (fun q2 => absurd (by decide) q2)
  refine aw_alo 0 (pcn := 59) rfl dX4_copyFrom_58 rfl rfl (rf_some _) ?_
  refine aw_alo 1 (pcn := 60) rfl dX4_copyFrom_59 rfl rfl (rf_some _) ?_
  obtain ⟨gb, hb0, hgb⟩ := hW.st' (s := s) vb
  refine aw_getf (pcn := 63) fl_X4_50 dX4_copyFrom_60 rfl hb0 rfl ?_
  obtain ⟨g2, hs2, _⟩ := hW.st vs hc8 u0
  refine aw_putS (pcn := 66) (T' := cfG A S s) hW vs hs2 fp_X4_50 (by decide) (VF.o _ _) (ss_6 _ _ _ _ _ _ _ _ _ _) (by unfold cfG; rw [stG_gs]; exact hW.stGm vs hc8 u0 hgb) dX4_copyFrom_63 rfl (fun h hW hk => ?_)
  have hK := hK.trans hk
  exact aw_ret dX4_copyFrom_66 rfl ⟨rfl, hW.eq hfin, hK⟩
