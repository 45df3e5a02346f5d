/-! the class: writing methods, second part -/
theorem WD.eq {Γ : NM} {ow : Nat → Nat × Nat} {h : Hp} {T T' Tr : TB} {nh : Nat} (H : WD Γ ow h T Tr nh) (e : T = T') : WD Γ ow h T' Tr nh := by rw [← e]; exact H
def co1 (T : TB) (c s p : Nat) : TB := payT (up (up T 19 (35 * s + 4 + p) (T 19 (35 * s + 4 + p) + -(T 19 (35 * s + 10 + p)))) 19 (35 * s + 10 + p) (nI 0)) c p (T 19 (35 * s + 10 + p))
def coT (T : TB) (c s : Nat) : Nat → TB
  | 0 => T
  | m + 1 => co1 (coT T c s m) c s m
def coX (T : TB) (c s : Nat) : Nat → Int32
  | 0 => T 8 c
  | m + 1 => coX T c s m - poT T s m 19 (35 * s + 10 + m)
theorem coT_eq (T : TB) (c s : Nat) {m : Nat} (hm : m ≤ 6) : coT T c s m = up (poT T s m) 8 c (coX T c s m) := by
  induction m with
  | zero => exact (up_same T 8 c).symm
  | succ m ih =>
    rw [coT, ih (by omega)]
    show co1 _ c s m = up (po1 (poT T s m) s m) 8 c (coX T c s m - poT T s m 19 (35 * s + 10 + m))
    generalize poT T s m = A
    generalize coX T c s m = x
    unfold co1 payT po1
    rw [up_j A _ _ _ (show 19 ≠ 8 by decide), up_j A _ _ _ (show 19 ≠ 8 by decide)]
    rw [up_comm _ _ _ _ _ (show 8 ≠ 19 by decide), up_comm _ _ _ _ _ (show 8 ≠ 19 by decide), up_s, up_j _ _ _ _ (show 0 ≠ 8 by decide), up_comm _ _ _ _ _ (show 8 ≠ 0 by decide), up_up]
    rw [up_j _ _ _ _ (show 0 ≠ 19 by decide), up_j _ _ _ _ (show 0 ≠ 19 by decide), up_comm _ _ _ _ _ (show 0 ≠ 19 by decide), up_comm _ _ _ _ _ (show 0 ≠ 19 by decide)]
    simp only [Int32.sub_eq_add_neg]
theorem coT_6 (T : TB) (c s : Nat) : up (coT T c s 6) 19 (35 * s + 3) (nI 0) = tkT T c s := by
  rw [coT_eq T c s (Nat.le_refl 6)]
  unfold tkT
  have key : ∀ m, m < 6 → poT T s m 19 (35 * s + 10 + m) = T 19 (35 * s + 10 + m) := fun m hm => by
    rw [(poT_v T s (m := m) (by omega)).2.1 m hm, if_neg (by omega)]
  rw [(poT_v T s (Nat.le_refl 6)).2.2 8 c (by decide) (by omega)]
  congr 2
  unfold coX coX coX coX coX coX coX outT
  rw [key 0 (by decide), key 1 (by decide), key 2 (by decide), key 3 (by decide), key 4 (by decide), key 5 (by decide), nI_0]
  grind
theorem co1_f (T : TB) (c s : Nat) {p : Nat} (hp : p < 6) : co1 T c s p 5 0 = T 5 0 ∧ co1 T c s p 18 0 = T 18 0 ∧ co1 T c s p 19 (35 * s + 0) = T 19 (35 * s + 0) := by
  unfold co1
  refine ⟨?_, ?_, ?_⟩
  · rw [payT_j _ _ _ _ _ (by decide) (by decide), up_j _ _ _ _ (by decide), up_j _ _ _ _ (by decide)]
  · rw [payT_j _ _ _ _ _ (by decide) (by decide), up_j _ _ _ _ (by decide), up_j _ _ _ _ (by decide)]
  · rw [payT_j _ _ _ _ _ (by decide) (by decide), up_i _ _ _ (by omega), up_i _ _ _ (by omega)]
set_option maxHeartbeats 1600000 in
set_option maxRecDepth 20000 in
theorem c_payOuts {X : XG} {l : Launch} {Γ : NM} {ow : Nat → Nat × Nat} {h : Hp} {T Tr : TB} {nh : Nat} (hW : WD Γ ow h T Tr nh) {S c : Nat} (hS : S < 64) (vs : S < ix (T 18 0)) (hc8 : c < 8) (vc : c < ix (T 5 0)) (hc0 : T 19 (35 * S + 0) = nI c) : AM X l yX6_payOuts cX6_payOuts 4 (none) 2 0 0 [.ref (Γ 0 0), .ref (Γ 8 S)] h (qv fun h' => WD Γ ow h' (tkT T c S) Tr nh) := by
  refine AM.of (by decide +kernel) (by simp [Value.category]) (Nat.le_of_ble_eq_true rfl) ?_
  show AW X l cX6_payOuts RX6 "payOuts" (none) 4 2 none _ 0 0 0 [some (.ref (Γ 0 0)), some (.ref (Γ 8 S)), none, none] [] h
  refine aw_iconst (v := nI 0) (pcn := 1) dX6_payOuts_0 rfl (by decide) ?_
  refine aw_ist 2 (pcn := 2) rfl dX6_payOuts_1 rfl (by decide) ?_
  dsimp only [List.set_cons_zero, List.set_cons_succ]
  have body : ∀ (p : Nat), p < 6 → ∀ (A : TB) (h : Hp), WD Γ ow h A Tr nh → c < ix (A 5 0) → S < ix (A 18 0) → A 19 (35 * S + 0) = nI c → (∀ h, WD Γ ow h (co1 A c S p) Tr nh → AW X l cX6_payOuts RX6 "payOuts" (none) 4 2 none (qv fun h' => WD Γ ow h' (tkT T c S) Tr nh) 0 0 2 [some (.ref (Γ 0 0)), some (.ref (Γ 8 S)), some (.int (nI (p + 1))), none] [] h) → AW X l cX6_payOuts RX6 "payOuts" (none) 4 2 none (qv fun h' => WD Γ ow h' (tkT T c S) Tr nh) 0 0 2 [some (.ref (Γ 0 0)), some (.ref (Γ 8 S)), some (.int (nI (p))), none] [] h := by
    intro p hp A h hW vc vs hc0 kk
    refine aw_ilo 2 (pcn := 3) rfl dX6_payOuts_2 rfl rfl ?_
    refine aw_bipush (v := nI 6) (pcn := 5) dX6_payOuts_3 rfl (by decide) ?_
    refine aw_icmp_ge (t := 52) (pcn := 8) dX6_payOuts_5 rfl (by decide) (fun q => absurd q (nI_ge hp (by decide))) (fun _ => ?_)
    refine aw_alo 1 (pcn := 9) rfl dX6_payOuts_8 rfl rfl (rf_some _) ?_
    obtain ⟨gs, hs, hgs⟩ := hW.st (s := S) vs hc8 hc0
    refine aw_getf (pcn := 12) fl_X6_192 dX6_payOuts_9 rfl hs rfl ?_
    refine aw_ilo 2 (pcn := 13) rfl dX6_payOuts_12 rfl rfl ?_
    obtain ⟨fo, hou1, hou2, hou3⟩ := hW.ou (s := S) vs
    refine aw_Vi (pcn := 16) (c_get0 hou1 hou2 _) mf_X5_get mv_X5_get hou1 rfl ml_X6_110 rfl (by decide) (by decide) (by decide) (by exact Nat.le_of_ble_eq_true rfl) rfl dX6_payOuts_13 rfl (fun r h2 hq => ?_)
    obtain ⟨rfl, hq⟩ := hq
    obtain rfl := hq.symm
    rw [sgT_nI hp, hou3 p hp]
    refine aw_ist 3 (pcn := 17) rfl dX6_payOuts_16 rfl (by decide) ?_
    dsimp only [List.set_cons_zero, List.set_cons_succ]
    refine aw_alo 1 (pcn := 18) rfl dX6_payOuts_17 rfl rfl (rf_some _) ?_
    obtain ⟨gs, hs, hgs⟩ := hW.st (s := S) vs hc8 hc0
    refine aw_getf (pcn := 21) fl_X6_80 dX6_payOuts_18 rfl hs rfl ?_
    refine aw_ilo 2 (pcn := 22) rfl dX6_payOuts_21 rfl rfl ?_
    refine aw_ilo 3 (pcn := 23) rfl dX6_payOuts_22 rfl rfl ?_
    refine aw_ineg (pcn := 24) dX6_payOuts_23 rfl ?_
    obtain ⟨fs, hsh1, hsh2, hsh3⟩ := hW.sh (s := S) vs
    refine aw_Vv (pcn := 27) (c_add0 hsh1 hsh2 hp _) mf_X5_add mv_X5_add hsh1 rfl ml_X6_74 rfl (by decide) (by decide) (by decide) (by exact Nat.le_of_ble_eq_true rfl) rfl dX6_payOuts_24 rfl (fun h hq => ?_)
    have hW := hW.shW vs hsh3 hp (fs p + -(A 19 (35 * S + 10 + p)))
    rw [← hq] at hW
    clear hq
    rw [hsh3 p hp] at hW
    have hc0 : up A 19 (35 * S + 4 + p) (A 19 (35 * S + 4 + p) + -(A 19 (35 * S + 10 + p))) 19 (35 * S + 0) = nI c := by rw [up_i _ _ _ (by omega)]; exact hc0
    refine aw_alo 1 (pcn := 28) rfl dX6_payOuts_27 rfl rfl (rf_some _) ?_
    obtain ⟨gs, hs, hgs⟩ := hW.st (s := S) vs hc8 hc0
    refine aw_getf (pcn := 31) fl_X6_192 dX6_payOuts_28 rfl hs rfl ?_
    refine aw_ilo 2 (pcn := 32) rfl dX6_payOuts_31 rfl rfl ?_
    refine aw_iconst (v := nI 0) (pcn := 33) dX6_payOuts_32 rfl (by decide) ?_
    obtain ⟨fo, hou1, hou2, hou3⟩ := hW.ou (s := S) vs
    refine aw_Vv (pcn := 36) (c_put0 hou1 hou2 hp (nI 0)) mf_X5_put mv_X5_put hou1 rfl ml_X6_38 rfl (by decide) (by decide) (by decide) (by exact Nat.le_of_ble_eq_true rfl) rfl dX6_payOuts_33 rfl (fun h hq => ?_)
    have hW := hW.ouW vs hou3 hp (nI 0)
    rw [← hq] at hW
    clear hq
    have hc0 : up (up A 19 (35 * S + 4 + p) (A 19 (35 * S + 4 + p) + -(A 19 (35 * S + 10 + p)))) 19 (35 * S + 10 + p) (nI 0) 19 (35 * S + 0) = nI c := by rw [up_i _ _ _ (by omega)]; exact hc0
    refine aw_alo 0 (pcn := 37) rfl dX6_payOuts_36 rfl rfl (rf_some _) ?_
    refine aw_alo 1 (pcn := 38) rfl dX6_payOuts_37 rfl rfl (rf_some _) ?_
    obtain ⟨gs, hs, hgs⟩ := hW.st (s := S) vs hc8 hc0
    refine aw_getf (pcn := 41) fl_X6_195 dX6_payOuts_38 rfl hs rfl ?_
    refine aw_ilo 2 (pcn := 42) rfl dX6_payOuts_41 rfl rfl ?_
    refine aw_ilo 3 (pcn := 43) rfl dX6_payOuts_42 rfl rfl ?_
    refine aw_Vv (pcn := 46) (c_payFrom hW (c := c) vc hp _) mf_X6_payFrom mv_X6_payFrom hW.sc rfl ml_X6_242 rfl (by decide) (by decide) (by decide) (by exact Nat.le_of_ble_eq_true rfl) rfl dX6_payOuts_43 rfl (fun h hW => ?_)
    obtain ⟨hW, hk⟩ := hW
    refine aw_iincN (pcn := 49) dX6_payOuts_46 rfl (by decide) rfl ?_
    dsimp only [List.set_cons_zero, List.set_cons_succ]
    refine aw_goto (t := 2) dX6_payOuts_49 (by decide) ?_
    refine AW.forget 3 ?_
    dsimp only [List.set_cons_zero, List.set_cons_succ]
    exact kk h hW
  have f0 := co1_f T c S (p := 0) (by decide)
  refine body 0 (by decide) T h hW vc vs hc0 (fun h hW => ?_)
  have w5_1 : coT T c S 1 5 0 = T 5 0 := by rw [show coT T c S 1 = co1 T c S 0 from rfl, f0.1]
  have w18_1 : coT T c S 1 18 0 = T 18 0 := by rw [show coT T c S 1 = co1 T c S 0 from rfl, f0.2.1]
  have w19_1 : coT T c S 1 19 (35 * S + 0) = T 19 (35 * S + 0) := by rw [show coT T c S 1 = co1 T c S 0 from rfl, f0.2.2]
  have f1 := co1_f (coT T c S 1) c S (p := 1) (by decide)
  refine body 1 (by decide) (coT T c S 1) h hW (by rw [w5_1]; exact vc) (by rw [w18_1]; exact vs) (by rw [w19_1]; exact hc0) (fun h hW => ?_)
  have w5_2 : coT T c S 2 5 0 = T 5 0 := by rw [show coT T c S 2 = co1 (coT T c S 1) c S 1 from rfl, f1.1, w5_1]
  have w18_2 : coT T c S 2 18 0 = T 18 0 := by rw [show coT T c S 2 = co1 (coT T c S 1) c S 1 from rfl, f1.2.1, w18_1]
  have w19_2 : coT T c S 2 19 (35 * S + 0) = T 19 (35 * S + 0) := by rw [show coT T c S 2 = co1 (coT T c S 1) c S 1 from rfl, f1.2.2, w19_1]
  have f2 := co1_f (coT T c S 2) c S (p := 2) (by decide)
  refine body 2 (by decide) (coT T c S 2) h hW (by rw [w5_2]; exact vc) (by rw [w18_2]; exact vs) (by rw [w19_2]; exact hc0) (fun h hW => ?_)
  have w5_3 : coT T c S 3 5 0 = T 5 0 := by rw [show coT T c S 3 = co1 (coT T c S 2) c S 2 from rfl, f2.1, w5_2]
  have w18_3 : coT T c S 3 18 0 = T 18 0 := by rw [show coT T c S 3 = co1 (coT T c S 2) c S 2 from rfl, f2.2.1, w18_2]
  have w19_3 : coT T c S 3 19 (35 * S + 0) = T 19 (35 * S + 0) := by rw [show coT T c S 3 = co1 (coT T c S 2) c S 2 from rfl, f2.2.2, w19_2]
  have f3 := co1_f (coT T c S 3) c S (p := 3) (by decide)
  refine body 3 (by decide) (coT T c S 3) h hW (by rw [w5_3]; exact vc) (by rw [w18_3]; exact vs) (by rw [w19_3]; exact hc0) (fun h hW => ?_)
  have w5_4 : coT T c S 4 5 0 = T 5 0 := by rw [show coT T c S 4 = co1 (coT T c S 3) c S 3 from rfl, f3.1, w5_3]
  have w18_4 : coT T c S 4 18 0 = T 18 0 := by rw [show coT T c S 4 = co1 (coT T c S 3) c S 3 from rfl, f3.2.1, w18_3]
  have w19_4 : coT T c S 4 19 (35 * S + 0) = T 19 (35 * S + 0) := by rw [show coT T c S 4 = co1 (coT T c S 3) c S 3 from rfl, f3.2.2, w19_3]
  have f4 := co1_f (coT T c S 4) c S (p := 4) (by decide)
  refine body 4 (by decide) (coT T c S 4) h hW (by rw [w5_4]; exact vc) (by rw [w18_4]; exact vs) (by rw [w19_4]; exact hc0) (fun h hW => ?_)
  have w5_5 : coT T c S 5 5 0 = T 5 0 := by rw [show coT T c S 5 = co1 (coT T c S 4) c S 4 from rfl, f4.1, w5_4]
  have w18_5 : coT T c S 5 18 0 = T 18 0 := by rw [show coT T c S 5 = co1 (coT T c S 4) c S 4 from rfl, f4.2.1, w18_4]
  have w19_5 : coT T c S 5 19 (35 * S + 0) = T 19 (35 * S + 0) := by rw [show coT T c S 5 = co1 (coT T c S 4) c S 4 from rfl, f4.2.2, w19_4]
  have f5 := co1_f (coT T c S 5) c S (p := 5) (by decide)
  refine body 5 (by decide) (coT T c S 5) h hW (by rw [w5_5]; exact vc) (by rw [w18_5]; exact vs) (by rw [w19_5]; exact hc0) (fun h hW => ?_)
  have w5_6 : coT T c S 6 5 0 = T 5 0 := by rw [show coT T c S 6 = co1 (coT T c S 5) c S 5 from rfl, f5.1, w5_5]
  have w18_6 : coT T c S 6 18 0 = T 18 0 := by rw [show coT T c S 6 = co1 (coT T c S 5) c S 5 from rfl, f5.2.1, w18_5]
  have w19_6 : coT T c S 6 19 (35 * S + 0) = T 19 (35 * S + 0) := by rw [show coT T c S 6 = co1 (coT T c S 5) c S 5 from rfl, f5.2.2, w19_5]
  have hW : WD Γ ow h (coT T c S 6) Tr nh := hW
  have hfin := coT_6 T c S
  generalize coT T c S 6 = B at hW w5_6 w18_6 w19_6 hfin
  have vc : c < ix (B 5 0) := by rw [w5_6]; exact vc
  have vs : S < ix (B 18 0) := by rw [w18_6]; exact vs
  have hc0 : B 19 (35 * S + 0) = nI c := by rw [w19_6]; exact hc0
  refine aw_ilo 2 (pcn := 3) rfl dX6_payOuts_2 rfl rfl ?_
  refine aw_bipush (v := nI 6) (pcn := 5) dX6_payOuts_3 rfl (by decide) ?_
  refine aw_icmp_ge (t := 52) (pcn := 8) dX6_payOuts_5 rfl (by decide) (fun q1 => ?_) (fun q1 => absurd (by decide) q1)
  obtain ⟨gs, hs, hgs⟩ := hW.st (s := S) vs hc8 hc0
  refine aw_alo 1 (pcn := 53) rfl dX6_payOuts_52 rfl rfl (rf_some _) ?_
  refine aw_iconst (v := nI 0) (pcn := 54) dX6_payOuts_53 rfl (by decide) ?_
  refine aw_putS (pcn := 57) hW vs hs fp_X6_215 (by decide) (VF.i _) (ss_8 _ _ _ _ _ _) (hW.stW vs hc8 hc0 hgs (j := 3) (by decide)) dX6_payOuts_54 rfl (fun h hW hk => ?_)
  exact aw_ret dX6_payOuts_57 rfl ⟨rfl, hW.eq hfin⟩

theorem shows_1 {T : TB} {c s : Nat} (h : T 9 c = nI 1) : showsT T c s = up (up (up (up T 9 c (nI 2)) 26 c (T 2 0 + T 7 c)) 10 c (nI s)) 11 c (T 2 0 + T 7 c) := by
  unfold showsT
  rw [if_pos h, up_comm _ _ _ _ _ (show 11 ≠ 26 by decide), up_comm _ _ _ _ _ (show 10 ≠ 26 by decide)]
set_option maxHeartbeats 1600000 in
set_option maxRecDepth 20000 in
theorem c_makeShown {X : XG} {l : Launch} {Γ : NM} {ow : Nat → Nat × Nat} {h : Hp} {T Tr : TB} {nh : Nat} (hW : WD Γ ow h T Tr nh) {S c : Nat} (hS : S < 64) (vs : S < ix (T 18 0)) (hc8 : c < 8) (vc : c < ix (T 5 0)) (hc0 : T 19 (35 * S + 0) = nI c) (hwt : T 9 c = nI 1 ∨ T 19 (35 * ix (T 10 c) + 1) < T 19 (35 * S + 1)) : AM X l yX6_makeShown cX6_makeShown 3 (none) 0 0 0 [.ref (Γ 0 0), .ref (Γ 8 S)] h (qv fun h' => WD Γ ow h' (showsT T c S) Tr nh) := by
  refine AM.of (by decide +kernel) (by simp [Value.category]) (Nat.le_of_ble_eq_true rfl) ?_
  show AW X l cX6_makeShown RX6 "makeShown" (none) 3 0 none _ 0 0 0 [some (.ref (Γ 0 0)), some (.ref (Γ 8 S)), none] [] h
  obtain ⟨gs, hs, hgs⟩ := hW.st (s := S) vs hc8 hc0
  obtain ⟨g, hc, hg⟩ := hW.ch (c := c) vc
  refine aw_alo 1 (pcn := 1) rfl dX6_makeShown_0 rfl rfl (rf_some _) ?_
  obtain ⟨gs, hs, hgs⟩ := hW.st (s := S) vs hc8 hc0
  refine aw_getf (pcn := 4) fl_X6_195 dX6_makeShown_1 rfl hs rfl ?_
  refine aw_ast 2 (pcn := 5) rfl dX6_makeShown_4 rfl (by decide) (rf_some _) ?_
  dsimp only [List.set_cons_zero, List.set_cons_succ]
  refine aw_alo 2 (pcn := 6) rfl dX6_makeShown_5 rfl rfl (rf_some _) ?_
  obtain ⟨g, hc, hg⟩ := hW.ch (c := c) vc
  refine aw_getf (pcn := 9) fl_X6_97 dX6_makeShown_6 rfl hc rfl ?_
  refine aw_iconst (v := nI 1) (pcn := 10) dX6_makeShown_9 rfl (by decide) ?_
  refine aw_icmp_ne (t := 31) (pcn := 13) dX6_makeShown_10 rfl (by decide) (fun q1 => ?_) (fun q1 => ?_)
  · refine aw_alo 2 (pcn := 32) rfl dX6_makeShown_31 rfl rfl (rf_some _) ?_
    refine aw_alo 1 (pcn := 33) rfl dX6_makeShown_32 rfl rfl (rf_some _) ?_
    refine aw_putC (pcn := 36) (T' := up _ 10 c (nI S)) hW vc hc fp_X6_230 (by decide) (VF.o _ (some _)) (by rw [← cs_7, sref_nI hS]; rfl) (hW.chW vc hg (j := 10) (by omega)) dX6_makeShown_33 rfl (fun h hW hk => ?_)
    obtain ⟨g, hc, hg⟩ := hW.ch (c := c) vc
    exact aw_ret dX6_makeShown_36 rfl ⟨rfl, by first | (rw [shows_1 q1]; exact hW.fr11) | (unfold showsT; rw [if_neg q1, if_pos (hwt.resolve_left q1)]; exact hW)⟩
  · refine aw_alo 2 (pcn := 14) rfl dX6_makeShown_13 rfl rfl (rf_some _) ?_
    refine aw_iconst (v := nI 2) (pcn := 15) dX6_makeShown_14 rfl (by decide) ?_
    refine aw_putC (pcn := 18) hW vc hc fp_X6_97 (by decide) (VF.i _) (cs_4 _ _ _ _ _) (hW.chW vc hg (j := 9) (by omega)) dX6_makeShown_15 rfl (fun h hW hk => ?_)
    obtain ⟨g, hc, hg⟩ := hW.ch (c := c) vc
    refine aw_alo 2 (pcn := 19) rfl dX6_makeShown_18 rfl rfl (rf_some _) ?_
    refine aw_alo 0 (pcn := 20) rfl dX6_makeShown_19 rfl rfl (rf_some _) ?_
    refine aw_getf (pcn := 23) fl_X6_224 dX6_makeShown_20 rfl hW.sc rfl ?_
    refine aw_alo 2 (pcn := 24) rfl dX6_makeShown_23 rfl rfl (rf_some _) ?_
    obtain ⟨g, hc, hg⟩ := hW.ch (c := c) vc
    refine aw_getf (pcn := 27) fl_X6_227 dX6_makeShown_24 rfl hc rfl ?_
    refine aw_iadd (pcn := 28) dX6_makeShown_27 rfl ?_
    refine aw_putC (pcn := 31) hW vc hc fp_X6_212 (by decide) (VF.i _) (cs_8 _ _ _ _ _) (hW.chW vc hg (j := 26) (by omega)) dX6_makeShown_28 rfl (fun h hW hk => ?_)
    obtain ⟨g, hc, hg⟩ := hW.ch (c := c) vc
    refine aw_alo 2 (pcn := 32) rfl dX6_makeShown_31 rfl rfl (rf_some _) ?_
    refine aw_alo 1 (pcn := 33) rfl dX6_makeShown_32 rfl rfl (rf_some _) ?_
    refine aw_putC (pcn := 36) (T' := up _ 10 c (nI S)) hW vc hc fp_X6_230 (by decide) (VF.o _ (some _)) (by rw [← cs_7, sref_nI hS]; rfl) (hW.chW vc hg (j := 10) (by omega)) dX6_makeShown_33 rfl (fun h hW hk => ?_)
    obtain ⟨g, hc, hg⟩ := hW.ch (c := c) vc
    exact aw_ret dX6_makeShown_36 rfl ⟨rfl, by first | (rw [shows_1 q1]; exact hW.fr11) | (unfold showsT; rw [if_neg q1, if_pos (hwt.resolve_left q1)]; exact hW)⟩

def nsV (T : TB) (c s : Nat) : Int32 := if cnt T c s = true ∧ T 19 (35 * ix (T 25 c) + 1) < T 19 (35 * s + 1) then nI s else T 25 c
set_option maxHeartbeats 1600000 in
set_option maxRecDepth 20000 in
theorem c_noteSigned {X : XG} {l : Launch} {Γ : NM} {ow : Nat → Nat × Nat} {h : Hp} {T Tr : TB} {nh : Nat} (hW : WD Γ ow h T Tr nh) {S c : Nat} (hS : S < 64) (vs : S < ix (T 18 0)) (hc8 : c < 8) (vc : c < ix (T 5 0)) (hc0 : T 19 (35 * S + 0) = nI c) {s0 : Nat} (hs0 : s0 < 64) (vs0 : s0 < ix (T 18 0)) (h25 : T 25 c = nI s0) : AM X l yX0_noteSigned cX0_noteSigned 2 (none) 3 0 0 [.ref (Γ 7 c), .ref (Γ 8 S)] h (qv fun h' => WD Γ ow h' (up T 25 c (nsV T c S)) Tr nh) := by
  refine AM.of (by decide +kernel) (by simp [Value.category]) (Nat.le_of_ble_eq_true rfl) ?_
  show AW X l cX0_noteSigned RX0 "noteSigned" (none) 2 3 none _ 0 0 0 [some (.ref (Γ 7 c)), some (.ref (Γ 8 S))] [] h
  obtain ⟨gs, hs, hgs⟩ := hW.st (s := S) vs hc8 hc0
  obtain ⟨g, hc, hg⟩ := hW.ch (c := c) vc
  obtain ⟨g0, hb0, _⟩ := hW.st' vs0
  refine aw_alo 1 (pcn := 1) rfl dX0_noteSigned_0 rfl rfl (rf_some _) ?_
  obtain ⟨gs, hs, hgs⟩ := hW.st (s := S) vs hc8 hc0
  refine aw_Vi (pcn := 4) (c_doesCountR hW vs hc8 vc hc0) mf_X4_doesCount mv_X4_doesCount hs rfl ml_X0_28 rfl (by decide) (by decide) (by decide) (by exact Nat.le_of_ble_eq_true rfl) rfl dX0_noteSigned_1 rfl (fun r h2 hq => ?_)
  obtain ⟨rfl, hq⟩ := hq
  obtain rfl := hq.symm
  refine aw_if_eqB (t := 33) (pcn := 7) dX0_noteSigned_4 rfl (by decide) (fun q1 => ?_) (fun q1 => ?_)
  · exact aw_ret dX0_noteSigned_33 rfl ⟨rfl, (by unfold nsV; rw [show ix (T 25 c) = s0 by rw [h25, ix_nI (by omega)]]; first | (rw [if_pos ⟨q1, Int32.not_le.mp q1⟩]; exact hW) | (rw [if_neg (fun e => by rw [q1] at e; exact absurd e.1 (by decide)), up_same]; exact hW) | (rw [if_neg (fun e => absurd e.2 (Int32.not_lt.mpr q1)), up_same]; exact hW))⟩
  · refine aw_alo 0 (pcn := 8) rfl dX0_noteSigned_7 rfl rfl (rf_some _) ?_
    obtain ⟨g, hc, hg⟩ := hW.ch (c := c) vc
    refine aw_getf (pcn := 11) fl_X0_34 dX0_noteSigned_8 rfl hc rfl ?_
    skip
    rw [h25, sref_nI hs0]
    refine aw_ifnull (t := 28) (pcn := 14) dX0_noteSigned_11 rfl (by decide) (rf_some _) (fun q2 => by cases q2) (fun a3 q2 => ?_)
    clear q2 a3
    refine aw_alo 1 (pcn := 15) rfl dX0_noteSigned_14 rfl rfl (rf_some _) ?_
    obtain ⟨gs, hs, hgs⟩ := hW.st (s := S) vs hc8 hc0
    refine aw_getf (pcn := 18) fl_X0_38 dX0_noteSigned_15 rfl hs rfl ?_
    refine aw_alo 0 (pcn := 19) rfl dX0_noteSigned_18 rfl rfl (rf_some _) ?_
    obtain ⟨g, hc, hg⟩ := hW.ch (c := c) vc
    refine aw_getf (pcn := 22) fl_X0_34 dX0_noteSigned_19 rfl hc rfl ?_
    skip
    rw [h25, sref_nI hs0]
    refine aw_getf (pcn := 25) fl_X0_38 dX0_noteSigned_22 rfl hb0 rfl ?_
    refine aw_icmp_le (t := 33) (pcn := 28) dX0_noteSigned_25 rfl (by decide) (fun q4 => ?_) (fun q4 => ?_)
    · exact aw_ret dX0_noteSigned_33 rfl ⟨rfl, (by unfold nsV; rw [show ix (T 25 c) = s0 by rw [h25, ix_nI (by omega)]]; first | (rw [if_pos ⟨q1, Int32.not_le.mp q4⟩]; exact hW) | (rw [if_neg (fun e => by rw [q1] at e; exact absurd e.1 (by decide)), up_same]; exact hW) | (rw [if_neg (fun e => absurd e.2 (Int32.not_lt.mpr q4)), up_same]; exact hW))⟩
    · refine aw_alo 0 (pcn := 29) rfl dX0_noteSigned_28 rfl rfl (rf_some _) ?_
      refine aw_alo 1 (pcn := 30) rfl dX0_noteSigned_29 rfl rfl (rf_some _) ?_
      refine aw_putC (pcn := 33) (T' := up _ 25 c (nI S)) hW vc hc fp_X0_34 (by decide) (VF.o _ (some _)) (by rw [← cs_6, sref_nI hS]; rfl) (hW.chW vc hg (j := 25) (by omega)) dX0_noteSigned_30 rfl (fun h hW hk => ?_)
      obtain ⟨g, hc, hg⟩ := hW.ch (c := c) vc
      exact aw_ret dX0_noteSigned_33 rfl ⟨rfl, (by unfold nsV; rw [show ix (T 25 c) = s0 by rw [h25, ix_nI (by omega)]]; first | (rw [if_pos ⟨q1, Int32.not_le.mp q4⟩]; exact hW) | (rw [if_neg (fun e => by rw [q1] at e; exact absurd e.1 (by decide)), up_same]; exact hW) | (rw [if_neg (fun e => absurd e.2 (Int32.not_lt.mpr q4)), up_same]; exact hW))⟩

set_option maxHeartbeats 1600000 in
set_option maxRecDepth 20000 in
theorem c_newSecret {X : XG} {l : Launch} {Γ : NM} {ow : Nat → Nat × Nat} {h : Hp} {T Tr : TB} {nh : Nat} (hW : WD Γ ow h T Tr nh) {i C n Z hN : Nat} (hI : Iv i T C n Z hN) (hZ : Z < 16) {P : Nat} (hP : P < 6) : AM X l yX6_newSecret cX6_newSecret 3 (some .int) 0 0 0 [.ref (Γ 0 0), .int (nI P)] h (qi fun r h' => r = nI Z ∧ WD Γ ow h' (secT T Z P) Tr nh) := by
  refine AM.of (by decide +kernel) (by simp [Value.category]) (Nat.le_of_ble_eq_true rfl) ?_
  show AW X l cX6_newSecret RX6 "newSecret" (some .int) 3 0 none _ 0 0 0 [some (.ref (Γ 0 0)), some (.int (nI P)), none] [] h
  have h64 := hI.n64
  have h8 := hI.C8
  have h16 := hI.Z16
  have h4 := hI.h4
  refine aw_alo 0 (pcn := 1) rfl dX6_newSecret_0 rfl rfl (rf_some _) ?_
  refine aw_getf (pcn := 4) fl_X6_274 dX6_newSecret_1 rfl hW.sc rfl ?_
  rw [hI.z3]
  refine aw_ist 2 (pcn := 5) rfl dX6_newSecret_4 rfl (by decide) ?_
  dsimp only [List.set_cons_zero, List.set_cons_succ]
  refine aw_ilo 2 (pcn := 6) rfl dX6_newSecret_5 rfl rfl ?_
  refine aw_if_lt (t := 37) (pcn := 9) dX6_newSecret_6 rfl (by decide) (fun q => absurd q (nI_pos (by omega))) (fun _ => ?_)
  refine aw_ilo 2 (pcn := 10) rfl dX6_newSecret_9 rfl rfl ?_
  refine aw_alo 0 (pcn := 11) rfl dX6_newSecret_10 rfl rfl (rf_some _) ?_
  refine aw_getf (pcn := 14) fl_X6_28 dX6_newSecret_11 rfl hW.sc rfl ?_
  refine aw_aleni (v := nI 16) (pcn := 15) dX6_newSecret_14 rfl hW.kno (by decide) ?_
  refine aw_icmp_ge (t := 37) (pcn := 18) dX6_newSecret_15 rfl (by decide) (fun q => absurd q (nI_ge hZ (by decide))) (fun _ => ?_)
  refine aw_alo 0 (pcn := 19) rfl dX6_newSecret_18 rfl rfl (rf_some _) ?_
  refine aw_getf (pcn := 22) fl_X6_28 dX6_newSecret_19 rfl hW.sc rfl ?_
  refine aw_ilo 2 (pcn := 23) rfl dX6_newSecret_22 rfl rfl ?_
  refine aw_iconst (v := nI 1) (pcn := 24) dX6_newSecret_23 rfl (by decide) ?_
  refine aw_ilo 1 (pcn := 25) rfl dX6_newSecret_24 rfl rfl ?_
  refine aw_ishl (pcn := 26) dX6_newSecret_25 rfl ?_
  refine aw_iastK (pcn := 27) hW dX6_newSecret_26 rfl (by omega) (fun h hW hk => ?_)
  refine aw_alo 0 (pcn := 28) rfl dX6_newSecret_27 rfl rfl (rf_some _) ?_
  refine aw_dup (pcn := 29) dX6_newSecret_28 rfl rfl ?_
  refine aw_getf (pcn := 32) fl_X6_274 dX6_newSecret_29 rfl hW.sc rfl ?_
  rw [show (up T 4 Z (nI 1 <<< (nI P &&& 31))) 3 0 = nI Z from hI.z3]
  refine aw_iconst (v := nI 1) (pcn := 33) dX6_newSecret_32 rfl (by decide) ?_
  refine aw_iaddN (pcn := 34) dX6_newSecret_33 rfl ?_
  refine aw_putO (pcn := 37) (j' := 3) hW fp_X6_274 (by decide) (by decide) (os_7 _ _ _) dX6_newSecret_34 rfl (fun h hW hk => ?_)
  refine aw_ilo 2 (pcn := 38) rfl dX6_newSecret_37 rfl rfl ?_
  exact aw_iret dX6_newSecret_38 rfl ⟨_, rfl, ⟨rfl, hW⟩⟩

theorem bits_has : ∀ (x : Fin 8) (k : Fin 3), (nI x &&& shiT k = 0) = (hasB (nI x) (nI k) = false) := by decide +kernel
theorem has_and {x : Int32} (h : okI x 8) {k : Nat} (hk : k < 3) : (x &&& (nI 1 <<< (nI k &&& 31)) = 0) = (hasB x (nI k) = false) := by
  obtain ⟨m, h1, rfl⟩ := h
  exact bits_has ⟨m, h1⟩ ⟨k, hk⟩
theorem bits_del : ∀ (x : Fin 8) (k : Fin 3), hasB (nI x) (nI k) = true → nI x &&& (shiT k ^^^ -1) = nI x - shiT k := by decide +kernel
theorem del_sub {x : Int32} (h : okI x 8) {k : Nat} (hk : k < 3) (hb : hasB x (nI k) = true) : x &&& (shiT k ^^^ -1) = x - shiT k := by
  obtain ⟨m, h1, rfl⟩ := h
  exact bits_del ⟨m, h1⟩ ⟨k, hk⟩ hb
theorem bool_f {b : Bool} (h : ¬ b = false) : b = true := by cases b; exact absurd rfl h; rfl
set_option maxHeartbeats 1600000 in
set_option maxRecDepth 20000 in
theorem c_heldLockAt {X : XG} {l : Launch} {Γ : NM} {ow : Nat → Nat × Nat} {h : Hp} {T Tr : TB} {nh : Nat} (hW : WD Γ ow h T Tr nh) {i C n Z hN : Nat} (hI : Iv i T C n Z hN) {c : Nat} (hcC : c < C) {K : Nat} (hK : K < 3) : AM X l yX0_heldLockAt cX0_heldLockAt 2 (some (.object "StateChannels$Lock")) 1 0 0 [.ref (Γ 7 c), .int (nI K)] h (qr fun r h' => ((hasB (T 12 c) (nI K) = false ∧ r = none) ∨ (hasB (T 12 c) (nI K) = true ∧ ∃ a, r = some a ∧ h a = some (ob 3 [.int (lkT T (ix (T 10 c)) K 1), .int (lkT T (ix (T 10 c)) K 2), .int (lkT T (ix (T 10 c)) K 0), .int (lkT T (ix (T 10 c)) K 3), .int (lkT T (ix (T 10 c)) K 4)]))) ∧ h' = h) := by
  refine AM.of (by decide +kernel) (by simp [Value.category]) (Nat.le_of_ble_eq_true rfl) ?_
  show AW X l cX0_heldLockAt RX0 "heldLockAt" (some (.object "StateChannels$Lock")) 2 1 none _ 0 0 0 [some (.ref (Γ 7 c)), some (.int (nI K))] [] h
  have h64 := hI.n64
  have h8 := hI.C8
  have h16 := hI.Z16
  have h4 := hI.h4
  have vc := hI.vc hcC
  obtain ⟨g, hc, hg⟩ := hW.ch vc
  have hc8 : c < 8 := by omega
  refine aw_alo 0 (pcn := 1) rfl dX0_heldLockAt_0 rfl rfl (rf_some _) ?_
  refine aw_getf (pcn := 4) fl_X0_41 dX0_heldLockAt_1 rfl hc rfl ?_
  by_cases e1 : T 9 c = nI 1
  · rw [(hI.ch hcC).2.2.2.1 e1, sref_m1]
    refine aw_ifnull (t := 36) (pcn := 7) dX0_heldLockAt_4 rfl (by decide) (rf_none) (fun q1 => ?_) (fun a2 q1 => by cases q1)
    clear q1
    refine aw_null (pcn := 37) dX0_heldLockAt_36 rfl ?_
    exact aw_aret dX0_heldLockAt_37 rfl (Or.inl ⟨_, rfl⟩) rf_none ⟨_, rfl, Or.inl ⟨by rw [((hI.he hcC).2.1 (ph13 e1)).1]; exact hasB_z hK, rfl⟩, rfl⟩
  · obtain ⟨b, hbn, hb2, hbc⟩ := (hI.ch hcC).2.2.2.2.1 e1
    obtain ⟨gb, hbo, _⟩ := hW.st (hI.vs hbn) hc8 hbc
    rw [hb2, sref_nI (by omega)]
    refine aw_ifnull (t := 36) (pcn := 7) dX0_heldLockAt_4 rfl (by decide) (rf_some _) (fun q3 => by cases q3) (fun a4 q3 => ?_)
    clear q3 a4
    refine aw_ilo 1 (pcn := 8) rfl dX0_heldLockAt_7 rfl rfl ?_
    refine aw_SNi (pcn := 11) (c_isPlace _) mf_X6_isPlace mv_X6_isPlace ml_X0_44 rfl (by decide) (by decide) (by decide) (by exact Nat.le_of_ble_eq_true rfl) rfl dX0_heldLockAt_8 rfl (fun r h2 hq => ?_)
    obtain ⟨rfl, hq⟩ := hq
    obtain rfl := hq.symm
    rw [inR_of (by omega) (by decide)]
    refine aw_if_eqB (t := 36) (pcn := 14) dX0_heldLockAt_11 rfl (by decide) (fun q => by cases q) (fun _ => ?_)
    refine aw_alo 0 (pcn := 15) rfl dX0_heldLockAt_14 rfl rfl (rf_some _) ?_
    refine aw_getf (pcn := 18) fl_X0_48 dX0_heldLockAt_15 rfl hc rfl ?_
    refine aw_iconst (v := nI 1) (pcn := 19) dX0_heldLockAt_18 rfl (by decide) ?_
    refine aw_ilo 1 (pcn := 20) rfl dX0_heldLockAt_19 rfl rfl ?_
    refine aw_ishl (pcn := 21) dX0_heldLockAt_20 rfl ?_
    refine aw_iand (pcn := 22) dX0_heldLockAt_21 rfl ?_
    refine aw_if_eq (t := 36) (pcn := 25) dX0_heldLockAt_22 rfl (by decide) (fun q5 => ?_) (fun q5 => ?_)
    · refine aw_null (pcn := 37) dX0_heldLockAt_36 rfl ?_
      exact aw_aret dX0_heldLockAt_37 rfl (Or.inl ⟨_, rfl⟩) rf_none ⟨_, rfl, Or.inl ⟨by rw [has_and (hI.he hcC).1 hK] at q5; exact q5, rfl⟩, rfl⟩
    · refine aw_alo 0 (pcn := 26) rfl dX0_heldLockAt_25 rfl rfl (rf_some _) ?_
      refine aw_getf (pcn := 29) fl_X0_41 dX0_heldLockAt_26 rfl hc rfl ?_
      rw [hb2, sref_nI (by omega)]
      refine aw_ilo 1 (pcn := 30) rfl dX0_heldLockAt_29 rfl rfl ?_
      refine aw_Vr (pcn := 33) (c_lockAtR hW (S := b) (K := K) (hI.vs hbn) hK) mf_X4_lockAt mv_X4_lockAt hbo rfl ml_X0_51 rfl (by decide) (by decide) (by decide) (by exact Nat.le_of_ble_eq_true rfl) rfl dX0_heldLockAt_30 rfl (fun r h2 hq => ?_)
      obtain ⟨hq, hh⟩ := hq
      obtain rfl := hh.symm
      have hr := hq
      refine aw_goto (t := 37) dX0_heldLockAt_33 (by decide) ?_
      rw [has_and (hI.he hcC).1 hK] at q5
      have hmu := (hI.he hcC).2.2.1 K hK (bool_f q5)
      rw [hb2, ix_nI (by omega)] at hmu
      obtain ⟨a, ha1, ha2⟩ := hr.2 (fun e => by rw [e] at hmu; exact absurd hmu (by decide))
      exact aw_aret dX0_heldLockAt_37 rfl (Or.inl ⟨_, rfl⟩) rfl ⟨_, rfl, Or.inr ⟨bool_f q5, a, ha1, by rw [ix_nI (by omega)]; exact ha2⟩, rfl⟩

theorem clm_eq {T : TB} {c b k p z : Nat} (hz : ix (lkT T b k 3) = z) : up (phT T c k p (lkT T b k 0)) 4 z (nI 63) = clmT T c b k p := by
  unfold clmT phT paysT
  rw [show ix (T 19 (35 * b + 16 + 5 * k + 3)) = z from hz, payT_up _ _ _ _ _ _ _ (by decide) (by decide), show lkT (up T 4 z (nI 63)) b k 0 = lkT T b k 0 from up_j _ _ _ _ (by decide), up_j _ _ _ _ (show 12 ≠ 4 by decide), up_comm _ _ _ _ _ (show 4 ≠ 12 by decide)]
theorem Iv.heldZ {i : Nat} {T : TB} {C n Z hN : Nat} (H : Iv i T C n Z hN) {c : Nat} (hc : c < C) {k : Nat} (hk : k < 3) (hb : hasB (T 12 c) (nI k) = true) : lkT T (ix (T 10 c)) k 0 ≠ 0 ∧ okI (lkT T (ix (T 10 c)) k 3) Z ∧ okI (lkT T (ix (T 10 c)) k 1) 6 := by
  have hmu := (H.he hc).2.2.1 k hk hb
  have h0 : lkT T (ix (T 10 c)) k 0 ≠ 0 := fun e => by rw [e] at hmu; exact absurd hmu (by decide)
  have hl := (H.st (H.byn hc)).2.2.1 k hk
  exact ⟨h0, hl.2.2.2.2 h0, hl.2.1⟩
