/-! the reference: oneMore, height, and the face -/
theorem payT_1 (T : TB) (c p : Nat) (v : Int32) {j : Nat} (i : Nat) (h0 : j ≠ 0) (h8 : j ≠ 8) : payT T c p v j i = T j i := payT_j T c p v i h0 h8
theorem winT_j (T : TB) (c p : Nat) {j : Nat} (i : Nat) (h : j = 1 ∨ j = 2 ∨ j = 5 ∨ j = 6 ∨ j = 18) : winT T c p j i = T j i := by
  unfold winT
  rw [up_j _ _ _ _ (by omega), up_j _ _ _ _ (by omega), up_j _ _ _ _ (by omega), up_j _ _ _ _ (by omega), up_j _ _ _ _ (by omega)]
theorem stpT_j (T : TB) (c : Nat) (t : Int32) {j : Nat} (i : Nat) (h : j = 1 ∨ j = 2 ∨ j = 5 ∨ j = 6 ∨ j = 18) : stpT T c t j i = T j i := by
  unfold stpT
  split
  · rw [winT_j _ _ _ _ h, up_j _ _ _ _ (by omega)]
  · rw [up_j _ _ _ _ (by omega), up_j _ _ _ _ (by omega), up_j _ _ _ _ (by omega), up_j _ _ _ _ (by omega), up_j _ _ _ _ (by omega)]
theorem plyT_j (T : TB) (c p : Nat) {j : Nat} (i : Nat) (h : j = 1 ∨ j = 2 ∨ j = 5 ∨ j = 6 ∨ j = 18) : plyT T c p j i = T j i := by
  unfold plyT
  split
  · split <;> exact stpT_j _ _ _ _ h
  · rfl
theorem showsT_j (T : TB) (c s : Nat) {j : Nat} (i : Nat) (h : j ≠ 9 ∧ j ≠ 10 ∧ j ≠ 11 ∧ j ≠ 26) : showsT T c s j i = T j i := by
  unfold showsT
  split
  · rw [up_j _ _ _ _ (by omega), up_j _ _ _ _ (by omega), up_j _ _ _ _ (by omega), up_j _ _ _ _ (by omega)]
  · split
    · rw [up_j _ _ _ _ (by omega)]
    · rfl
theorem watI_j (T : TB) (c n p : Nat) {j : Nat} (i : Nat) (h : j = 1 ∨ j = 2 ∨ j = 5 ∨ j = 6 ∨ j = 18) : watI T c n p j i = T j i := by
  unfold watI watT
  split
  · split
    · rfl
    · exact showsT_j _ _ _ _ (by omega)
  · split
    · exact showsT_j _ _ _ _ (by omega)
    · rw [plyT_j _ _ _ _ h]
      unfold cw3
      rw [cwT_j _ _ _ _ _ _ (by omega) (by omega) (by omega) (by omega), cwT_j _ _ _ _ _ _ (by omega) (by omega) (by omega) (by omega), cwT_j _ _ _ _ _ _ (by omega) (by omega) (by omega) (by omega)]
theorem waA_j (T : TB) (n p c : Nat) {j : Nat} (i : Nat) (h : j = 1 ∨ j = 2 ∨ j = 5 ∨ j = 6 ∨ j = 18) : waA T n p c j i = T j i := by
  induction c with
  | zero => rfl
  | succ c ih =>
    rw [waA]
    split
    · rw [watI_j _ _ _ _ _ h, ih]
    · exact ih
def OmOK (i : Nat) (T : TB) (C n Z hN : Nat) : Prop := (∀ c, c ≤ C → Iv i (duA (up T 2 0 (T 2 0 + nI 1)) c) C n Z hN) ∧ ∀ p c, p < 6 → c ≤ C → Iv i (waA (waN (duA (up T 2 0 (T 2 0 + nI 1)) C) C n p) n p c) C n Z hN
set_option maxHeartbeats 8000000 in
set_option maxRecDepth 20000 in
theorem r_oneMore {X : XG} {l : Launch} {Γ : NM} {ow : Nat → Nat × Nat} {h : Hp} {T Tr : TB} {nh : Nat} (hW : WD Γ ow h T Tr nh) {i C n Z hN : Nat} (h64 : n ≤ 64) (h8 : C ≤ 8) (ho : OmOK i Tr C n Z hN) : AM X l yX7_oneMore cX7_oneMore 3 (none) 5 0 0 [.ref (Γ 14 0)] h (qv fun h' => WD Γ ow h' T (omT Tr C n) nh) := by
  refine AM.of (by decide +kernel) (by simp [Value.category]) (Nat.le_of_ble_eq_true rfl) ?_
  show AW X l cX7_oneMore RX7 "oneMore" (none) 3 5 none _ 0 0 0 [some (.ref (Γ 14 0)), none, none] [] h
  refine aw_alo 0 (pcn := 1) rfl dX7_oneMore_0 rfl rfl (rf_some _) ?_
  refine aw_dup (pcn := 2) dX7_oneMore_1 rfl rfl ?_
  refine aw_getf (pcn := 5) fl_X7_103 dX7_oneMore_2 rfl hW.mo rfl ?_
  refine aw_iconst (v := nI 1) (pcn := 6) dX7_oneMore_5 rfl (by decide) ?_
  refine aw_iadd (pcn := 7) dX7_oneMore_6 rfl ?_
  refine aw_putM (pcn := 10) hW fp_X7_103 rfl (ms_2 _ _ _) (by decide) dX7_oneMore_7 rfl (fun h hW => ?_)
  refine aw_iconst (v := nI 0) (pcn := 11) dX7_oneMore_10 rfl (by decide) ?_
  refine aw_ist 1 (pcn := 12) rfl dX7_oneMore_11 rfl (by decide) ?_
  dsimp only [List.set_cons_zero, List.set_cons_succ]
  have H : ∀ (m k : Nat), k + m = C → ∀ h, WD Γ ow h T (duA (up Tr 2 0 (Tr 2 0 + nI 1)) k) nh → AW X l cX7_oneMore RX7 "oneMore" (none) 3 5 none (qv fun h' => WD Γ ow h' T (omT Tr C n) nh) 0 0 12 [some (.ref (Γ 14 0)), some (.int (nI k)), none] [] h := by
    intro m
    induction m with
    | zero  =>
      intro k hk h hW
      obtain rfl : C = k := by omega
      have hJ := ho.1 C (by omega)
      refine aw_ilo 1 (pcn := 13) rfl dX7_oneMore_12 rfl rfl ?_
      refine aw_alo 0 (pcn := 14) rfl dX7_oneMore_13 rfl rfl (rf_some _) ?_
      refine aw_getf (pcn := 17) fl_X7_68 dX7_oneMore_14 rfl hW.mo rfl ?_
      rw [hJ.c5]
      refine aw_icmp_ge (t := 31) (pcn := 20) dX7_oneMore_17 rfl (by decide) (fun _ => ?_) (fun q => absurd (Int32.le_refl _) q)
      refine aw_iconst (v := nI 0) (pcn := 32) dX7_oneMore_31 rfl (by decide) ?_
      refine aw_ist 1 (pcn := 33) rfl dX7_oneMore_32 rfl (by decide) ?_
      dsimp only [List.set_cons_zero, List.set_cons_succ]
      have body : ∀ (p : Nat), p < 6 → ∀ (h : Hp), WD Γ ow h T (waN (duA (up Tr 2 0 (Tr 2 0 + nI 1)) C) C n p) nh → (∀ h, WD Γ ow h T (waN (duA (up Tr 2 0 (Tr 2 0 + nI 1)) C) C n (p + 1)) nh → AW X l cX7_oneMore RX7 "oneMore" (none) 3 5 none (qv fun h' => WD Γ ow h' T (omT Tr C n) nh) 0 0 33 [some (.ref (Γ 14 0)), some (.int (nI (p + 1))), none] [] h) → AW X l cX7_oneMore RX7 "oneMore" (none) 3 5 none (qv fun h' => WD Γ ow h' T (omT Tr C n) nh) 0 0 33 [some (.ref (Γ 14 0)), some (.int (nI (p))), none] [] h := by
        intro p hp h hW kk
        refine aw_ilo 1 (pcn := 34) rfl dX7_oneMore_33 rfl rfl ?_
        refine aw_bipush (v := nI 6) (pcn := 36) dX7_oneMore_34 rfl (by decide) ?_
        refine aw_icmp_ge (t := 91) (pcn := 39) dX7_oneMore_36 rfl (by decide) (fun q => absurd q (nI_ge hp (by decide))) (fun _ => ?_)
        refine aw_iconst (v := nI 0) (pcn := 40) dX7_oneMore_39 rfl (by decide) ?_
        refine aw_ist 2 (pcn := 41) rfl dX7_oneMore_40 rfl (by decide) ?_
        dsimp only [List.set_cons_zero, List.set_cons_succ]
        have out : ∀ h x, WD Γ ow h T (waN (duA (up Tr 2 0 (Tr 2 0 + nI 1)) C) C n (p + 1)) nh → AW X l cX7_oneMore RX7 "oneMore" (none) 3 5 none (qv fun h' => WD Γ ow h' T (omT Tr C n) nh) 0 0 85 [some (.ref (Γ 14 0)), some (.int (nI p)), x] [] h := by
          intro h x hW
          refine aw_iincN (pcn := 88) dX7_oneMore_85 rfl (by decide) rfl ?_
          dsimp only [List.set_cons_zero, List.set_cons_succ]
          refine aw_goto (t := 33) dX7_oneMore_88 (by decide) ?_
          refine AW.forget 2 ?_
          dsimp only [List.set_cons_zero, List.set_cons_succ]
          exact kk h hW
        have H : ∀ (m k : Nat), k + m = C → ∀ h, (k = 0 ∨ hasB ((waN (duA (up Tr 2 0 (Tr 2 0 + nI 1)) C) C n p) 1 0) (nI p) = true) → WD Γ ow h T (waA (waN (duA (up Tr 2 0 (Tr 2 0 + nI 1)) C) C n p) n p k) nh → AW X l cX7_oneMore RX7 "oneMore" (none) 3 5 none (qv fun h' => WD Γ ow h' T (omT Tr C n) nh) 0 0 41 [some (.ref (Γ 14 0)), some (.int (nI p)), some (.int (nI k))] [] h := by
          intro m
          induction m with
          | zero  =>
            intro k hk h hor hW
            obtain rfl : C = k := by omega
            have hJ := ho.2 p C hp (by omega)
            refine aw_ilo 2 (pcn := 42) rfl dX7_oneMore_41 rfl rfl ?_
            refine aw_alo 0 (pcn := 43) rfl dX7_oneMore_42 rfl rfl (rf_some _) ?_
            refine aw_getf (pcn := 46) fl_X7_68 dX7_oneMore_43 rfl hW.mo rfl ?_
            rw [hJ.c5]
            refine aw_icmp_ge (t := 85) (pcn := 49) dX7_oneMore_46 rfl (by decide) (fun _ => ?_) (fun q => absurd (Int32.le_refl _) q)
            refine out h _ ?_
            show WD Γ ow h T (waP (waN (duA (up Tr 2 0 (Tr 2 0 + nI 1)) C) C n p) C n p) nh
            unfold waP
            split
            · exact hW
            · rename_i q
              rcases hor with e | e
              · subst e; exact hW
              · exact absurd e q
          | succ m ih =>
            intro k hk h hor hW
            have hJ := ho.2 p k hp (by omega)
            refine aw_ilo 2 (pcn := 42) rfl dX7_oneMore_41 rfl rfl ?_
            refine aw_alo 0 (pcn := 43) rfl dX7_oneMore_42 rfl rfl (rf_some _) ?_
            refine aw_getf (pcn := 46) fl_X7_68 dX7_oneMore_43 rfl hW.mo rfl ?_
            rw [hJ.c5]
            refine aw_icmp_ge (t := 85) (pcn := 49) dX7_oneMore_46 rfl (by decide) (fun q => absurd q (nI_ge (by omega) (by omega))) (fun _ => ?_)
            refine aw_alo 0 (pcn := 50) rfl dX7_oneMore_49 rfl rfl (rf_some _) ?_
            refine aw_getf (pcn := 53) fl_X7_137 dX7_oneMore_50 rfl hW.mo rfl ?_
            refine aw_ilo 1 (pcn := 54) rfl dX7_oneMore_53 rfl rfl ?_
            refine aw_Si (pcn := 57) (r_has _ _) mf_X7_has mv_X7_has ml_X7_79 rfl (by decide) (by decide) (by decide) (by exact Nat.le_of_ble_eq_true rfl) rfl dX7_oneMore_54 rfl (fun r h2 hq => ?_)
            obtain ⟨rfl, hq⟩ := hq
            obtain rfl := hq.symm
            refine aw_if_eqB (t := 85) (pcn := 60) dX7_oneMore_57 rfl (by decide) (fun q1 => ?_) (fun q1 => ?_)
            · rw [waA_j _ _ _ _ _ (by decide)] at q1
              refine out h _ ?_
              show WD Γ ow h T (waP (waN (duA (up Tr 2 0 (Tr 2 0 + nI 1)) C) C n p) C n p) nh
              unfold waP
              rw [if_neg (by rw [q1]; decide)]
              rcases hor with e | e
              · subst e; exact hW
              · rw [q1] at e; cases e
            · refine aw_alo 0 (pcn := 61) rfl dX7_oneMore_60 rfl rfl (rf_some _) ?_
              refine aw_getf (pcn := 64) fl_X7_16 dX7_oneMore_61 rfl hW.mo rfl ?_
              refine aw_ilo 2 (pcn := 65) rfl dX7_oneMore_64 rfl rfl ?_
              refine aw_ialdM (j := 6) (pcn := 66) hW dX7_oneMore_65 rfl (show _ < 8 by omega) ?_
              refine aw_ilo 1 (pcn := 67) rfl dX7_oneMore_66 rfl rfl ?_
              refine aw_Si (pcn := 70) (r_has _ _) mf_X7_has mv_X7_has ml_X7_79 rfl (by decide) (by decide) (by decide) (by exact Nat.le_of_ble_eq_true rfl) rfl dX7_oneMore_67 rfl (fun r h2 hq => ?_)
              obtain ⟨rfl, hq⟩ := hq
              obtain rfl := hq.symm
              refine aw_if_eqB (t := 79) (pcn := 73) dX7_oneMore_70 rfl (by decide) (fun q2 => ?_) (fun q2 => ?_)
              · refine aw_iincN (pcn := 82) dX7_oneMore_79 rfl (by decide) rfl ?_
                dsimp only [List.set_cons_zero, List.set_cons_succ]
                refine aw_goto (t := 41) dX7_oneMore_82 (by decide) ?_
                rw [waA_j _ _ _ _ _ (by decide)] at q1
                exact ih (k + 1) (by omega) h (Or.inr q1) (by rw [waA]; first | (rw [if_pos q2]; exact hW) | (rw [if_neg (by rw [q2]; decide)]; exact hW))
              · refine aw_alo 0 (pcn := 74) rfl dX7_oneMore_73 rfl rfl (rf_some _) ?_
                refine aw_ilo 1 (pcn := 75) rfl dX7_oneMore_74 rfl rfl ?_
                refine aw_ilo 2 (pcn := 76) rfl dX7_oneMore_75 rfl rfl ?_
                refine aw_Vv (pcn := 79) (r_watI hW (c := k) (P := p) hJ (by omega) hp) mf_X7_watches mv_X7_watches hW.mo rfl ml_X7_140 rfl (by decide) (by decide) (by decide) (by exact Nat.le_of_ble_eq_true rfl) rfl dX7_oneMore_76 rfl (fun h hW => ?_)
                refine aw_iincN (pcn := 82) dX7_oneMore_79 rfl (by decide) rfl ?_
                dsimp only [List.set_cons_zero, List.set_cons_succ]
                refine aw_goto (t := 41) dX7_oneMore_82 (by decide) ?_
                rw [waA_j _ _ _ _ _ (by decide)] at q1
                exact ih (k + 1) (by omega) h (Or.inr q1) (by rw [waA]; first | (rw [if_pos q2]; exact hW) | (rw [if_neg (by rw [q2]; decide)]; exact hW))
        exact H C 0 (by omega) h (Or.inl rfl) hW
      refine body 0 (by decide) h hW (fun h hW => ?_)
      refine body 1 (by decide) h hW (fun h hW => ?_)
      refine body 2 (by decide) h hW (fun h hW => ?_)
      refine body 3 (by decide) h hW (fun h hW => ?_)
      refine body 4 (by decide) h hW (fun h hW => ?_)
      refine body 5 (by decide) h hW (fun h hW => ?_)
      refine aw_ilo 1 (pcn := 34) rfl dX7_oneMore_33 rfl rfl ?_
      refine aw_bipush (v := nI 6) (pcn := 36) dX7_oneMore_34 rfl (by decide) ?_
      refine aw_icmp_ge (t := 91) (pcn := 39) dX7_oneMore_36 rfl (by decide) (fun q3 => ?_) (fun q3 => absurd (by decide) q3)
      exact aw_ret dX7_oneMore_91 rfl ⟨rfl, hW⟩
    | succ m ih =>
      intro k hk h hW
      have hJ := ho.1 k (by omega)
      refine aw_ilo 1 (pcn := 13) rfl dX7_oneMore_12 rfl rfl ?_
      refine aw_alo 0 (pcn := 14) rfl dX7_oneMore_13 rfl rfl (rf_some _) ?_
      refine aw_getf (pcn := 17) fl_X7_68 dX7_oneMore_14 rfl hW.mo rfl ?_
      rw [hJ.c5]
      refine aw_icmp_ge (t := 31) (pcn := 20) dX7_oneMore_17 rfl (by decide) (fun q => absurd q (nI_ge (by omega) (by omega))) (fun _ => ?_)
      refine aw_alo 0 (pcn := 21) rfl dX7_oneMore_20 rfl rfl (rf_some _) ?_
      refine aw_ilo 1 (pcn := 22) rfl dX7_oneMore_21 rfl rfl ?_
      refine aw_Vv (pcn := 25) (r_duesI hW (c := k) hJ (by omega)) mf_X7_dues mv_X7_dues hW.mo rfl ml_X7_134 rfl (by decide) (by decide) (by decide) (by exact Nat.le_of_ble_eq_true rfl) rfl dX7_oneMore_22 rfl (fun h hW => ?_)
      refine aw_iincN (pcn := 28) dX7_oneMore_25 rfl (by decide) rfl ?_
      dsimp only [List.set_cons_zero, List.set_cons_succ]
      refine aw_goto (t := 12) dX7_oneMore_28 (by decide) ?_
      exact ih (k + 1) (by omega) h hW
  exact H C 0 (by omega) h hW

set_option maxHeartbeats 8000000 in
set_option maxRecDepth 20000 in
theorem r_height {X : XG} {l : Launch} {Γ : NM} {ow : Nat → Nat × Nat} {h : Hp} {T Tr : TB} {nh : Nat} (hW : WD Γ ow h T Tr nh) {i C n Z hN : Nat} (h64 : n ≤ 64) (h8 : C ≤ 8) (ho : ∀ k, OmOK i (omN Tr C n k) C n Z hN) (kk : Int32) : AM X l yX7_height cX7_height 3 (some .int) 6 0 0 [.ref (Γ 14 0), .int kk] h (qi fun r h' => r = (heightT Tr C n kk).1 ∧ WD Γ ow h' T (heightT Tr C n kk).2 nh) := by
  refine AM.of (by decide +kernel) (by simp [Value.category]) (Nat.le_of_ble_eq_true rfl) ?_
  show AW X l cX7_height RX7 "height" (some .int) 3 6 none _ 0 0 0 [some (.ref (Γ 14 0)), some (.int kk), none] [] h
  refine aw_ilo 1 (pcn := 1) rfl dX7_height_0 rfl rfl ?_
  refine aw_iconst (v := nI 1) (pcn := 2) dX7_height_1 rfl (by decide) ?_
  refine aw_bipush (v := nI 100) (pcn := 4) dX7_height_2 rfl (by decide) ?_
  refine aw_Si (pcn := 7) (r_isIn _ _ _) mf_X7_isIn mv_X7_isIn ml_X7_64 rfl (by decide) (by decide) (by decide) (by exact Nat.le_of_ble_eq_true rfl) rfl dX7_height_4 rfl (fun r h2 hq => ?_)
  obtain ⟨rfl, hq⟩ := hq
  obtain rfl := hq.symm
  refine aw_if_neB (t := 13) (pcn := 10) dX7_height_7 rfl (by decide) (fun q1 => ?_) (fun q1 => ?_)
  · refine aw_iconst (v := nI 0) (pcn := 14) dX7_height_13 rfl (by decide) ?_
    refine aw_ist 2 (pcn := 15) rfl dX7_height_14 rfl (by decide) ?_
    dsimp only [List.set_cons_zero, List.set_cons_succ]
    obtain ⟨K, _, hK, rfl⟩ := inRp (by decide) q1
    have H : ∀ (m k : Nat), k + m = K → ∀ h, WD Γ ow h T (omN Tr C n k) nh → AW X l cX7_height RX7 "height" (some .int) 3 6 none (qi fun r h' => r = (heightT Tr C n (nI K)).1 ∧ WD Γ ow h' T (heightT Tr C n (nI K)).2 nh) 0 0 15 [some (.ref (Γ 14 0)), some (.int (nI K)), some (.int (nI k))] [] h := by
      intro m
      induction m with
      | zero  =>
        intro k hk h hW
        obtain rfl : K = k := by omega
        refine aw_ilo 2 (pcn := 16) rfl dX7_height_15 rfl rfl ?_
        refine aw_ilo 1 (pcn := 17) rfl dX7_height_16 rfl rfl ?_
        refine aw_icmp_ge (t := 30) (pcn := 20) dX7_height_17 rfl (by decide) (fun _ => ?_) (fun q => absurd (Int32.le_refl _) q)
        refine aw_alo 0 (pcn := 31) rfl dX7_height_30 rfl rfl (rf_some _) ?_
        refine aw_getf (pcn := 34) fl_X7_103 dX7_height_31 rfl hW.mo rfl ?_
        exact aw_iret dX7_height_34 rfl ⟨_, rfl, ret2 (by unfold heightT; rw [ix_nI (by omega)]; exact if_neg (by simp [*])) hW⟩
      | succ m ih =>
        intro k hk h hW
        refine aw_ilo 2 (pcn := 16) rfl dX7_height_15 rfl rfl ?_
        refine aw_ilo 1 (pcn := 17) rfl dX7_height_16 rfl rfl ?_
        refine aw_icmp_ge (t := 30) (pcn := 20) dX7_height_17 rfl (by decide) (fun q => absurd q (nI_ge (by omega) (by omega))) (fun _ => ?_)
        refine aw_alo 0 (pcn := 21) rfl dX7_height_20 rfl rfl (rf_some _) ?_
        refine aw_Vv (pcn := 24) (r_oneMore hW h64 h8 (ho k)) mf_X7_oneMore mv_X7_oneMore hW.mo rfl ml_X7_182 rfl (by decide) (by decide) (by decide) (by exact Nat.le_of_ble_eq_true rfl) rfl dX7_height_21 rfl (fun h hW => ?_)
        refine aw_iincN (pcn := 27) dX7_height_24 rfl (by decide) rfl ?_
        dsimp only [List.set_cons_zero, List.set_cons_succ]
        refine aw_goto (t := 15) dX7_height_27 (by decide) ?_
        exact ih (k + 1) (by omega) h hW
    exact H K 0 (by omega) h hW
  · refine aw_bipush (v := -3) (pcn := 12) dX7_height_10 rfl (by decide) ?_
    exact aw_iret dX7_height_12 rfl ⟨_, rfl, ret2 (by unfold heightT; rw [if_pos q1]) hW⟩
