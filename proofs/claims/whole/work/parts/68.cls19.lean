/-! the class's face: channel -/
theorem dpk_st2 (D : TB) (n C p : Nat) (s v : Int32) : up (up (up (up (up D 8 C s) 25 C (-1)) 0 p ((up (up D 8 C s) 25 C (-1)) 0 p + -v)) 8 C ((up (up (up D 8 C s) 25 C (-1)) 0 p ((up (up D 8 C s) 25 C (-1)) 0 p + -v)) 8 C + v)) 19 (35 * n + 4 + p) v = up (up (up (up D 0 p (D 0 p - v)) 19 (35 * n + 4 + p) v) 8 C (s + v)) 25 C (-1) := by
  have h0 : (up (up D 8 C s) 25 C (-1)) 0 p = D 0 p := by rw [up_j _ _ _ _ (by decide), up_j _ _ _ _ (by decide)]
  have h8 : (up (up (up D 8 C s) 25 C (-1)) 0 p (D 0 p + -v)) 8 C = s := by rw [up_j _ _ _ _ (by decide), up_j _ _ _ _ (by decide), up_s]
  rw [h0, h8]
  exact dpk_st D n C p s v
set_option maxHeartbeats 1600000 in
set_option maxRecDepth 20000 in
theorem c_hasM0R {X : XG} {l : Launch} {Γ : NM} {ow : Nat → Nat × Nat} {h : Hp} {T Tr : TB} {nh : Nat} (hW : WD Γ ow h T Tr nh) {c : Nat} (vc : c < ix (T 5 0)) (h6 : okI (T 6 c) 64) {p : Nat} (hp : p < 6) : AM X l yX0_hasMember cX0_hasMember 2 (some .boolean) 1 0 0 [.ref (Γ 7 c), .int (nI p)] h (qi fun r h' => r = bI (hasB (T 6 c) (nI p)) ∧ h' = h) := by
  refine AM.of (by decide +kernel) (by simp [Value.category]) (Nat.le_of_ble_eq_true rfl) ?_
  show AW X l cX0_hasMember RX0 "hasMember" (some .boolean) 2 1 none _ 0 0 0 [some (.ref (Γ 7 c)), some (.int (nI p))] [] h
  obtain ⟨g, hc, hg⟩ := hW.ch vc
  refine aw_alo 0 (pcn := 1) rfl dX0_hasMember_0 rfl rfl (rf_some _) ?_
  refine aw_getf (pcn := 4) fl_X0_18 dX0_hasMember_1 rfl hc rfl ?_
  refine aw_ilo 1 (pcn := 5) rfl dX0_hasMember_4 rfl rfl ?_
  refine aw_SNi (pcn := 8) (c_isIn _ _) mf_X6_isIn mv_X6_isIn ml_X0_24 rfl (by decide) (by decide) (by decide) (by exact Nat.le_of_ble_eq_true rfl) rfl dX0_hasMember_5 rfl (fun r h2 hq => ?_)
  obtain ⟨rfl, hq⟩ := hq
  obtain rfl := hq.symm
  exact aw_zret dX0_hasMember_8 rfl (bI_01 _) ⟨_, rfl, ⟨by rw [inB_has h6 hp], rfl⟩⟩

set_option maxHeartbeats 1600000 in
set_option maxRecDepth 20000 in
theorem c_a_channel {X : XG} {l : Launch} {Γ : NM} {ow : Nat → Nat × Nat} {h : Hp} {T Tr : TB} {nh : Nat} (hW : WD Γ ow h T Tr nh) {i C n Z hN : Nat} (hI : Iv i T C n Z hN) (hh : nh ≤ hN) (set v d : Int32) : AM X l yX6_channel cX6_channel 7 (some .int) 4 7 38 [.ref (Γ 0 0), .int set, .int v, .int d] h (qi fun r h' => r = (channelT T C n set v d).1 ∧ ∃ Γ' ow', (∀ k i, vld T k i → Γ' k i = Γ k i) ∧ WD Γ' ow' h' (channelT T C n set v d).2 Tr nh) := by
  refine AM.of (by decide +kernel) (by simp [Value.category]) (Nat.le_of_ble_eq_true rfl) ?_
  show AW X l cX6_channel RX6 "channel" (some .int) 7 4 none _ 7 38 0 [some (.ref (Γ 0 0)), some (.int set), some (.int v), some (.int d), none, none, none] [] h
  have h64 := hI.n64
  have h8 := hI.C8
  have h16 := hI.Z16
  have h4 := hI.h4
  refine aw_ilo 1 (pcn := 1) rfl dX6_channel_0 rfl rfl ?_
  refine aw_if_lt (t := 10) (pcn := 4) dX6_channel_1 rfl (by decide) (fun q1 => ?_) (fun q1 => ?_)
  · replace q1 := Int32.not_le.mpr q1
    refine aw_iconst (v := -1) (pcn := 11) dX6_channel_10 rfl (by decide) ?_
    exact aw_iret dX6_channel_11 rfl ⟨_, rfl, ret5 (by unfold channelT; rw [if_pos (by unfold inR; first | (rw [decide_eq_false (p := nI 0 ≤ set) (by rw [nI_0]; exact q1), Bool.false_and]; done) | (rw [decide_eq_false (p := set ≤ nI 63) q1, Bool.and_false]; done))]) (fun _ _ _ => rfl) hW⟩
  · replace q1 := Int32.not_lt.mp q1
    refine aw_ilo 1 (pcn := 5) rfl dX6_channel_4 rfl rfl ?_
    refine aw_bipush (v := nI 63) (pcn := 7) dX6_channel_5 rfl (by decide) ?_
    refine aw_icmp_le (t := 12) (pcn := 10) dX6_channel_7 rfl (by decide) (fun q2 => ?_) (fun q2 => ?_)
    · have hs1 : inR set (nI 0) (nI 63) = true := by unfold inR; rw [decide_eq_true (p := nI 0 ≤ set) (by rw [nI_0]; exact q1), decide_eq_true (p := set ≤ nI 63) q2]; rfl
      have hset : okI set 64 := by obtain ⟨g, h1, h2⟩ := inR_nI (b := 63) (by decide) hs1; exact ⟨g, by omega, h2⟩
      refine aw_ilo 2 (pcn := 13) rfl dX6_channel_12 rfl rfl ?_
      refine aw_iconst (v := nI 0) (pcn := 14) dX6_channel_13 rfl (by decide) ?_
      refine aw_sipush (v := nI 10000) (pcn := 17) dX6_channel_14 rfl (by decide) ?_
      refine aw_Si (pcn := 20) (c_isWithin _ _ _) mf_X6_isWithin mv_X6_isWithin ml_X6_42 rfl (by decide) (by decide) (by decide) (by exact Nat.le_of_ble_eq_true rfl) rfl dX6_channel_17 rfl (fun r h2 hq => ?_)
      obtain ⟨rfl, hq⟩ := hq
      obtain rfl := hq.symm
      refine aw_if_eqB (t := 45) (pcn := 23) dX6_channel_20 rfl (by decide) (fun q3 => ?_) (fun q3 => ?_)
      · refine aw_bipush (v := -3) (pcn := 47) dX6_channel_45 rfl (by decide) ?_
        exact aw_iret dX6_channel_47 rfl ⟨_, rfl, ret5 (by unfold channelT; rw [if_neg (by rw [hs1]; decide), if_pos (Or.inl q3)]) (fun _ _ _ => rfl) hW⟩
      · refine aw_ilo 3 (pcn := 24) rfl dX6_channel_23 rfl rfl ?_
        refine aw_iconst (v := nI 2) (pcn := 25) dX6_channel_24 rfl (by decide) ?_
        refine aw_bipush (v := nI 20) (pcn := 27) dX6_channel_25 rfl (by decide) ?_
        refine aw_Si (pcn := 30) (c_isWithin _ _ _) mf_X6_isWithin mv_X6_isWithin ml_X6_42 rfl (by decide) (by decide) (by decide) (by exact Nat.le_of_ble_eq_true rfl) rfl dX6_channel_27 rfl (fun r h2 hq => ?_)
        obtain ⟨rfl, hq⟩ := hq
        obtain rfl := hq.symm
        refine aw_if_eqB (t := 45) (pcn := 33) dX6_channel_30 rfl (by decide) (fun q4 => ?_) (fun q4 => ?_)
        · refine aw_bipush (v := -3) (pcn := 47) dX6_channel_45 rfl (by decide) ?_
          exact aw_iret dX6_channel_47 rfl ⟨_, rfl, ret5 (by unfold channelT; rw [if_neg (by rw [hs1]; decide), if_pos (Or.inr (Or.inl q4))]) (fun _ _ _ => rfl) hW⟩
        · refine aw_ilo 1 (pcn := 34) rfl dX6_channel_33 rfl rfl ?_
          refine aw_Si (pcn := 37) (c_bitCount _) mf_J6_bitCount_0f7a4 mv_J6_bitCount_0f7a4 ml_X6_46 rfl (by decide) (by decide) (by decide) (by exact Nat.le_of_ble_eq_true rfl) rfl dX6_channel_34 rfl (fun r h2 hq => ?_)
          obtain ⟨rfl, hq⟩ := hq
          obtain rfl := hq.symm
          rw [bc_size hset]
          refine aw_iconst (v := nI 2) (pcn := 38) dX6_channel_37 rfl (by decide) ?_
          refine aw_iconst (v := nI 4) (pcn := 39) dX6_channel_38 rfl (by decide) ?_
          refine aw_Si (pcn := 42) (c_isWithin _ _ _) mf_X6_isWithin mv_X6_isWithin ml_X6_42 rfl (by decide) (by decide) (by decide) (by exact Nat.le_of_ble_eq_true rfl) rfl dX6_channel_39 rfl (fun r h2 hq => ?_)
          obtain ⟨rfl, hq⟩ := hq
          obtain rfl := hq.symm
          refine aw_if_neB (t := 48) (pcn := 45) dX6_channel_42 rfl (by decide) (fun q5 => ?_) (fun q5 => ?_)
          · refine aw_alo 0 (pcn := 49) rfl dX6_channel_48 rfl rfl (rf_some _) ?_
            refine aw_getf (pcn := 52) fl_X6_52 dX6_channel_49 rfl hW.sc rfl ?_
            rw [hI.c5]
            refine aw_alo 0 (pcn := 53) rfl dX6_channel_52 rfl rfl (rf_some _) ?_
            refine aw_getf (pcn := 56) fl_X6_18 dX6_channel_53 rfl hW.sc rfl ?_
            refine aw_alenr (v := nI 8) (pcn := 57) dX6_channel_56 rfl hW.chs (by decide) (by decide) ?_
            refine aw_icmp_ge (t := 77) (pcn := 60) dX6_channel_57 rfl (by decide) (fun q6 => ?_) (fun q6 => ?_)
            · refine aw_bipush (v := -4) (pcn := 79) dX6_channel_77 rfl (by decide) ?_
              exact aw_iret dX6_channel_79 rfl ⟨_, rfl, ret5 (by unfold channelT; rw [if_neg (by rw [hs1]; decide), if_neg (by rintro (x | x | x); rw [q3] at x; cases x; rw [q4] at x; cases x; rw [q5] at x; cases x), if_pos (Or.inl (by have e := q6; rw [nI_leI (by omega) (by omega)] at e; rw [hI.c5, show C = 8 by omega]))]) (fun _ _ _ => rfl) hW⟩
            · refine aw_alo 0 (pcn := 61) rfl dX6_channel_60 rfl rfl (rf_some _) ?_
              refine aw_iconst (v := nI 1) (pcn := 62) dX6_channel_61 rfl (by decide) ?_
              refine aw_Vi (pcn := 65) (c_hasRoomS hW hI (k := 1) (by omega)) mf_X6_hasRoomForStates mv_X6_hasRoomForStates hW.sc rfl ml_X6_56 rfl (by decide) (by decide) (by decide) (by exact Nat.le_of_ble_eq_true rfl) rfl dX6_channel_62 rfl (fun r h2 hq => ?_)
              obtain ⟨rfl, hq⟩ := hq
              obtain rfl := hq.symm
              refine aw_if_eqB (t := 77) (pcn := 68) dX6_channel_65 rfl (by decide) (fun q7 => ?_) (fun q7 => ?_)
              · refine aw_bipush (v := -4) (pcn := 79) dX6_channel_77 rfl (by decide) ?_
                exact aw_iret dX6_channel_79 rfl ⟨_, rfl, ret5 (by unfold channelT; rw [if_neg (by rw [hs1]; decide), if_neg (by rintro (x | x | x); rw [q3] at x; cases x; rw [q4] at x; cases x; rw [q5] at x; cases x), if_pos (Or.inr (Or.inl (by have e := of_decide_eq_false q7; rw [hI.n18, show n = 64 by omega])))]) (fun _ _ _ => rfl) hW⟩
              · refine aw_alo 0 (pcn := 69) rfl dX6_channel_68 rfl rfl (rf_some _) ?_
                refine aw_ilo 1 (pcn := 70) rfl dX6_channel_69 rfl rfl ?_
                refine aw_ilo 2 (pcn := 71) rfl dX6_channel_70 rfl rfl ?_
                refine aw_Vi (pcn := 74) (c_allHave hW hI hset v) mf_X6_allHave mv_X6_allHave hW.sc rfl ml_X6_60 rfl (by decide) (by decide) (by decide) (by exact Nat.le_of_ble_eq_true rfl) rfl dX6_channel_71 rfl (fun r h2 hq => ?_)
                obtain ⟨rfl, hq⟩ := hq
                obtain rfl := hq.symm
                refine aw_if_neB (t := 80) (pcn := 77) dX6_channel_74 rfl (by decide) (fun q8 => ?_) (fun q8 => ?_)
                · have hC8 : C < 8 := by
                    have e := q6
                    rw [nI_leI (by omega) (by omega)] at e
                    omega
                  have hn64 : n < 64 := by have e := of_decide_eq_true q7; omega
                  have hpoor : poorT T set v = false := by cases e : poorT T set v with | false => rfl | true => rw [e] at q8; cases q8
                  refine aw_new 12 (pcn := 83) nw_X6_16 rfl dX6_channel_80 rfl (by decide) (by decide) (fun a za => ?_)
                  have hW1 := hW.made (c := ob 0 [.int 0, .int 0, .int 0, .int 0, .int 0, .int 0, .null, .null, .int 0, .int 0, .null, .int 0]) za
                  obtain ⟨hA, eA⟩ : ∃ x, x = hup h a (ob 0 [.int 0, .int 0, .int 0, .int 0, .int 0, .int 0, .null, .null, .int 0, .int 0, .null, .int 0]) := ⟨_, rfl⟩
                  rw [← eA] at hW1 ⊢
                  have fA : hA a = some (ob 0 [.int 0, .int 0, .int 0, .int 0, .int 0, .int 0, .null, .null, .int 0, .int 0, .null, .int 0]) := by rw [eA]; exact hup_s _ _ _
                  refine aw_dup (pcn := 84) dX6_channel_83 rfl rfl ?_
                  refine aw_alo 0 (pcn := 85) rfl dX6_channel_84 rfl rfl (rf_some _) ?_
                  refine aw_getf (pcn := 88) fl_X6_52 dX6_channel_85 rfl hW1.sc rfl ?_
                  rw [hI.c5]
                  refine aw_ilo 1 (pcn := 89) rfl dX6_channel_88 rfl rfl ?_
                  refine aw_ilo 3 (pcn := 90) rfl dX6_channel_89 rfl rfl ?_
                  refine aw_Iv (rty := none) (pcn := 93) (c_Channel fA (nI C) set d) mf_X0_init mv_X0_init rfl ml_X6_64 rfl (by decide) (by decide) (by decide) (by exact Nat.le_of_ble_eq_true rfl) rfl dX6_channel_90 rfl (fun hB hqB => ?_)
                  rw [eA, hup_hup] at hqB
                  have hW2 := hW.made (c := ob 0 [.int (nI C), .int set, .int d, .int 0, .int (nI 1), .int 0, .null, .null, .int 0, .int 0, .null, .int 0]) za
                  rw [← hqB] at hW2
                  have fB : hB a = some (ob 0 [.int (nI C), .int set, .int d, .int 0, .int (nI 1), .int 0, .null, .null, .int 0, .int 0, .null, .int 0]) := by rw [hqB]; exact hup_s _ _ _
                  refine aw_astore (pcn := 95) dX6_channel_93 rfl (by decide) (rf_some _) ?_
                  dsimp only [List.set_cons_zero, List.set_cons_succ]
                  refine aw_alo 0 (pcn := 96) rfl dX6_channel_95 rfl rfl (rf_some _) ?_
                  refine aw_getf (pcn := 99) fl_X6_18 dX6_channel_96 rfl hW2.sc rfl ?_
                  refine aw_alo 0 (pcn := 100) rfl dX6_channel_99 rfl rfl (rf_some _) ?_
                  refine aw_getf (pcn := 103) fl_X6_52 dX6_channel_100 rfl hW2.sc rfl ?_
                  rw [hI.c5]
                  refine aw_aload (pcn := 105) dX6_channel_103 rfl rfl (rf_some _) ?_
                  refine aw_aast (pcn := 106) dX6_channel_105 rfl hW2.chs (by decide) (vp_in_nI hC8 (by decide)) fB ?_
                  rw [nI_clamp (by omega)]
                  obtain ⟨hD, eD⟩ : ∃ x, x = hup hB (Γ 3 0) (ra 1 8 (fun q => if q = C then some a else if q < ix (T 5 0) then some (Γ 7 q) else none)) := ⟨_, rfl⟩
                  show AW _ _ _ _ _ _ _ _ _ _ _ _ _ _ _ (hup hB (Γ 3 0) (ra 1 8 (fun q => if q = C then some a else if q < ix (T 5 0) then some (Γ 7 q) else none)))
                  rw [← eD]
                  have n03 : Γ 0 0 ≠ Γ 3 0 := fun e => by
                    have h1 := hW.1 0 0 (v0 (by decide))
                    rw [e, hW.1 3 0 (v0 (by decide))] at h1
                    cases h1
                  have scD : hD (Γ 0 0) = some (ob 6 (scF Γ T)) := by rw [eD, hup_n _ _ n03]; exact hW2.sc
                  refine aw_alo 0 (pcn := 107) rfl dX6_channel_106 rfl rfl (rf_some _) ?_
                  refine aw_dup (pcn := 108) dX6_channel_107 rfl rfl ?_
                  refine aw_getf (pcn := 111) fl_X6_52 dX6_channel_108 rfl scD rfl ?_
                  rw [hI.c5]
                  refine aw_iconst (v := nI 1) (pcn := 112) dX6_channel_111 rfl (by decide) ?_
                  refine aw_iaddN (pcn := 113) dX6_channel_112 rfl ?_
                  refine aw_putf (pcn := 116) fp_X6_52 dX6_channel_113 rfl scD (by exact Nat.le_of_ble_eq_true rfl) (VF.i _) ?_
                  obtain ⟨hE, eE⟩ : ∃ x, x = hup hD (Γ 0 0) (ob 6 (scF Γ (up T 5 0 (nI (C + 1))))) := ⟨_, rfl⟩
                  show AW _ _ _ _ _ _ _ _ _ _ _ _ _ _ _ (hup hD (Γ 0 0) (ob 6 (scF Γ (up T 5 0 (nI (C + 1))))))
                  rw [← eE]
                  have na : ∀ k i, vld T k i → Γ k i ≠ a := fun k i hv e => by
                    obtain ⟨x, h1, _⟩ := hW.2 k i hv
                    rw [e, za] at h1
                    cases h1
                  have ix5 : ix (T 5 0) = C := by rw [hI.c5, ix_nI (by omega)]
                  have ix18 : ix (T 18 0) = n := by rw [hI.n18, ix_nI (by omega)]
                  obtain ⟨c5, c6, c8, c9, c10, c26, c27, cx, cj⟩ := chn0_v T C set v d
                  have tZ := hI.1.2.2.2.2.2.2.2.2.2.2 C (Nat.le_refl _)
                  obtain ⟨ow1, hW3⟩ := hW.newC (h5 := hE) (T' := chnC T C set v d) (C := C) (a := a) (set := set) (d := d) hI.c5 hC8 (fun s hs => by
                      rw [ix18] at hs
                      obtain ⟨c, h1, h2⟩ := hI.so hs
                      rw [h2, ix_nI (by omega)]; exact h1) (fun q hq => ((hI.2.1.1 q (by omega)).1.ix (by omega)).2) za
                    (by rw [eE, hup_n _ _ (fun e => na 0 0 (v0 (by decide)) e.symm), eD, hup_n _ _ (fun e => na 3 0 (v0 (by decide)) e.symm)]; exact fB)
                    (fun q hq h0 h3 => by rw [eE, hup_n _ _ h0, eD, hup_n _ _ h3, hqB, hup_n _ _ (fun e => hq (by rw [e]; exact za))])
                    (by rw [eE]; exact hup_s _ _ _) (by rw [eE, hup_n _ _ (Ne.symm n03), eD, hup_s, ix5])
                    c5 c6 (by show chn0 T C set v d 7 C = d; unfold chn0; simp [up]) (up_s _ _ _ _) c9 (by show chn0 T C set v d 24 C = 0; unfold chn0; simp [up, nI_0]) (up_s _ _ _ _) c10 c26 c27 tZ.1 tZ.2
                    (fun j x h1 h2 => by
                      unfold chnC
                      by_cases e25 : j = 25 ∧ x = C
                      · exact absurd ⟨e25.2, by omega⟩ h2
                      · by_cases e8 : j = 8 ∧ x = C
                        · exact absurd ⟨e8.2, by omega⟩ h2
                        · rw [show up (up (chn0 T C set v d) 8 C 0) 25 C (-1) j x = _ from if_neg e25, show up (chn0 T C set v d) 8 C 0 j x = _ from if_neg e8]
                          by_cases ex : x = C
                          · by_cases ej : j = 5
                            · subst ej
                              unfold chn0
                              rw [up_j _ _ _ _ (by decide), up_j _ _ _ _ (by decide), up_j _ _ _ _ (by decide), up_j _ _ _ _ (by decide), up_j _ _ _ _ (by decide), up_j _ _ _ _ (by decide), up_j _ _ _ _ (by decide), up_j _ _ _ _ (by decide), up_i _ _ _ (fun e => h1 ⟨rfl, e⟩)]
                            · exact cj j x ej (by omega) (by omega) (by omega) (by omega) (by omega) (by omega) (by omega) (by omega)
                          · exact cx j x ex h1)
                  have g1 : ∀ k i, vld T k i → nGc Γ C a k i = Γ k i := fun k i hv => nGc_o (fun e => by
                    unfold vld at hv
                    rw [ix5] at hv
                    omega)
                  have ga : nGc Γ C a 7 C = a := if_pos ⟨rfl, rfl⟩
                  obtain ⟨Γ1, eΓ⟩ : ∃ x, x = nGc Γ C a := ⟨_, rfl⟩
                  rw [← eΓ] at hW3 g1 ga
                  rw [← ga, ← g1 0 0 (v0 (by decide))]
                  have e5 : chnC T C set v d 5 0 = nI (C + 1) := c5
                  have e18 : chnC T C set v d 18 0 = nI n := (cj 18 0 (by decide) (by decide) (by decide) (by decide) (by decide) (by decide) (by decide) (by decide) (by decide)).trans hI.n18
                  have vc1 : C < ix (chnC T C set v d 5 0) := by rw [e5, ix_nI (by omega)]; omega
                  have hso1 : ∀ q, q < ix (chnC T C set v d 5 0) → sOK n (chnC T C set v d 25 q) ∧ sOK n (chnC T C set v d 10 q) := fun q hq => by
                    rw [e5, ix_nI (by omega)] at hq
                    by_cases e : q = C
                    · subst e
                      exact ⟨Or.inl (up_s _ _ _ _), Or.inl c10⟩
                    · have := hI.sok q (by rw [ix5]; omega)
                      rw [show chnC T C set v d 25 q = T 25 q from (up_i _ _ _ e).trans (cx 25 q e (by omega)), show chnC T C set v d 10 q = T 10 q from cx 10 q e (by omega)]
                      exact this
                  have hrk1 : chnC T C set v d 24 C = rkT (chnC T C set v d) C n := by
                    rw [rk_none (fun s hs e => by
                      obtain ⟨c, h1, h2⟩ := hI.so hs
                      rw [show chnC T C set v d 19 (35 * s + 0) = T 19 (35 * s + 0) from cj 19 _ (by decide) (by decide) (by decide) (by decide) (by decide) (by decide) (by decide) (by decide) (by decide), h2, nI_eq (by omega) (by omega)] at e
                      omega)]
                    show chn0 T C set v d 24 C = nI 0
                    unfold chn0
                    simp [up]
                  refine aw_alo 0 (pcn := 117) rfl dX6_channel_116 rfl rfl (rf_some _) ?_
                  refine aw_aload (pcn := 119) dX6_channel_117 rfl rfl (rf_some _) ?_
                  refine aw_Vr (pcn := 122) (c_newState hW3 e18 hn64 hC8 vc1 hso1 hrk1) mf_X6_newState mv_X6_newState hW3.sc rfl ml_X6_67 rfl (by decide) (by decide) (by decide) (by exact Nat.le_of_ble_eq_true rfl) rfl dX6_channel_119 rfl (fun r h2 hq => ?_)
                  obtain ⟨Γ2, ow2, hG2, rfl, hW, _⟩ := hq
                  have hW : WD Γ2 ow2 h2 (up (up (dpk (blkT (chn0 T C set v d) C n) n set v 0) 8 C (cntk set 0 * v)) 25 C (-1)) Tr nh := hW.eq (by unfold chnC; rw [blkT_up _ _ _ _ _ _ (by decide), blkT_up _ _ _ _ _ _ (by decide)]; show _ = up (up _ 8 C (0 * v)) 25 C (-1); rw [Int32.zero_mul]; rfl)
                  have vm : ∀ k i, vld T k i → vld (chnC T C set v d) k i := fun k i hv => by
                    unfold vld at hv ⊢
                    rw [e5, e18, ix_nI (by omega), ix_nI (by omega)]
                    rw [ix5, ix18] at hv
                    omega
                  have hG3 : ∀ k i, vld T k i → Γ2 k i = Γ k i := fun k i hv => (hG2 k i (vm k i hv)).trans (g1 k i hv)
                  rw [← hG2 0 0 (v0 (by decide)), ← hG2 7 C (v7 vc1)]
                  have y6 : ∀ k, (up (up (dpk (blkT (chn0 T C set v d) C n) n set v k) 8 C (cntk set k * v)) 25 C (-1)) 6 C = set := fun k => by
                    rw [up_j _ _ _ _ (by decide), up_j _ _ _ _ (by decide), dpk_j _ _ _ _ _ _ (by decide) (by decide), blkT_j _ _ _ _ (by decide)]; exact c6
                  have y5 : ∀ k, (up (up (dpk (blkT (chn0 T C set v d) C n) n set v k) 8 C (cntk set k * v)) 25 C (-1)) 5 0 = nI (C + 1) := fun k => by
                    rw [up_j _ _ _ _ (by decide), up_j _ _ _ _ (by decide), dpk_j _ _ _ _ _ _ (by decide) (by decide), blkT_j _ _ _ _ (by decide)]; exact c5
                  obtain ⟨b0, b1, b33, b34, bz, bo, b18, b24, bj⟩ := blkT_v (chn0 T C set v d) C n
                  have y18 : ∀ k, (up (up (dpk (blkT (chn0 T C set v d) C n) n set v k) 8 C (cntk set k * v)) 25 C (-1)) 18 0 = nI (n + 1) := fun k => by
                    rw [up_j _ _ _ _ (by decide), up_j _ _ _ _ (by decide), dpk_j _ _ _ _ _ _ (by decide) (by decide)]; exact b18
                  have y0 : ∀ k, k ≤ 6 → (up (up (dpk (blkT (chn0 T C set v d) C n) n set v k) 8 C (cntk set k * v)) 25 C (-1)) 19 (35 * n + 0) = nI C := fun k hk => by
                    rw [up_j _ _ _ _ (by decide), up_j _ _ _ _ (by decide)]
                    induction k with
                    | zero => exact b0
                    | succ k ih =>
                      show dep1 _ _ _ _ _ 19 _ = _
                      unfold dep1
                      split
                      · rw [up_i _ _ _ (by omega), up_j _ _ _ _ (by decide)]; exact ih (by omega)
                      · exact ih (by omega)
                  refine aw_astore (pcn := 124) dX6_channel_122 rfl (by decide) (rf_some _) ?_
                  dsimp only [List.set_cons_zero, List.set_cons_succ]
                  refine aw_iconst (v := nI 0) (pcn := 125) dX6_channel_124 rfl (by decide) ?_
                  refine aw_istore (pcn := 127) dX6_channel_125 rfl (by decide) ?_
                  dsimp only [List.set_cons_zero, List.set_cons_succ]
                  refine AW.le (k' := 0) (n' := 0) (by omega) (by omega) ?_
                  have H : ∀ (m k : Nat), k + m = 6 → ∀ h, WD Γ2 ow2 h (up (up (dpk (blkT (chn0 T C set v d) C n) n set v k) 8 C (cntk set k * v)) 25 C (-1)) Tr nh → AW X l cX6_channel RX6 "channel" (some .int) 7 4 none (qi fun r h' => r = (channelT T C n set v d).1 ∧ ∃ Γ' ow', (∀ k i, vld T k i → Γ' k i = Γ k i) ∧ WD Γ' ow' h' (channelT T C n set v d).2 Tr nh) 0 0 127 [some (.ref (Γ2 0 0)), some (.int set), some (.int v), some (.int d), some (.ref (Γ2 7 C)), some (.ref (Γ2 8 n)), some (.int (nI k))] [] h := by
                    intro m
                    induction m with
                    | zero  =>
                      intro k hk h hW
                      have vc : C < ix ((up (up (dpk (blkT (chn0 T C set v d) C n) n set v k) 8 C (cntk set k * v)) 25 C (-1)) 5 0) := by rw [y5 k, ix_nI (by omega)]; omega
                      have vs : n < ix ((up (up (dpk (blkT (chn0 T C set v d) C n) n set v k) 8 C (cntk set k * v)) 25 C (-1)) 18 0) := by rw [y18 k, ix_nI (by omega)]; omega
                      have hc0 := y0 k (by omega)
                      have hc8 : C < 8 := hC8
                      have x6 := y6 k
                      obtain ⟨X, eX⟩ : ∃ x, x = (up (up (dpk (blkT (chn0 T C set v d) C n) n set v k) 8 C (cntk set k * v)) 25 C (-1)) := ⟨_, rfl⟩
                      rw [← eX] at hW vc vs hc0 x6
                      refine aw_iload (pcn := 129) dX6_channel_127 rfl rfl ?_
                      refine aw_bipush (v := nI 6) (pcn := 131) dX6_channel_129 rfl (by decide) ?_
                      obtain rfl : k = 6 := by omega
                      refine aw_icmp_ge (t := 183) (pcn := 134) dX6_channel_131 rfl (by decide) (fun _ => ?_) (fun q => absurd (Int32.le_refl _) q)
                      obtain ⟨gs, hs, hgs⟩ := hW.st (s := n) vs hc8 hc0
                      refine aw_aload (pcn := 185) dX6_channel_183 rfl rfl (rf_some _) ?_
                      refine aw_ilo 1 (pcn := 186) rfl dX6_channel_185 rfl rfl ?_
                      refine aw_putS (pcn := 189) hW vs hs fp_X6_83 (by decide) (VF.i _) (ss_7 _ _ _ _ _ _) (hW.stW vs hc8 hc0 hgs (j := 2) (by decide)) dX6_channel_186 rfl (fun h hW hk => ?_)
                      refine aw_aload (pcn := 191) dX6_channel_189 rfl rfl (rf_some _) ?_
                      refine aw_aload (pcn := 193) dX6_channel_191 rfl rfl (rf_some _) ?_
                      obtain ⟨g, hc, hg⟩ := hW.ch (c := C) vc
                      refine aw_putC (pcn := 196) (T' := up _ 25 C (nI n)) hW vc hc fp_X6_86 (by decide) (VF.o _ (some _)) (by rw [← cs_6, sref_nI hn64]; rfl) (hW.chW vc hg (j := 25) (by omega)) dX6_channel_193 rfl (fun h hW hk => ?_)
                      refine aw_aload (pcn := 198) dX6_channel_196 rfl rfl (rf_some _) ?_
                      obtain ⟨g, hc, hg⟩ := hW.ch (c := C) vc
                      refine aw_getf (pcn := 201) fl_X6_90 dX6_channel_198 rfl hc rfl ?_
                      exact aw_iret dX6_channel_201 rfl ⟨_, rfl, ret5 (by unfold channelT; rw [if_neg (by rw [hs1]; decide), if_neg (by rintro (x | x | x); rw [q3] at x; cases x; rw [q4] at x; cases x; rw [q5] at x; cases x), if_neg (by rintro (x | x | x); rw [hI.c5, nI_eq (by omega) (by omega)] at x; omega; rw [hI.n18, nI_eq (by omega) (by omega)] at x; omega; rw [hpoor] at x; cases x)]) hG3 (hW.eq (by rw [eX, dpk6]; exact chn_end T C n hset))⟩
                    | succ m ih =>
                      intro k hk h hW
                      have vc : C < ix ((up (up (dpk (blkT (chn0 T C set v d) C n) n set v k) 8 C (cntk set k * v)) 25 C (-1)) 5 0) := by rw [y5 k, ix_nI (by omega)]; omega
                      have vs : n < ix ((up (up (dpk (blkT (chn0 T C set v d) C n) n set v k) 8 C (cntk set k * v)) 25 C (-1)) 18 0) := by rw [y18 k, ix_nI (by omega)]; omega
                      have hc0 := y0 k (by omega)
                      have hc8 : C < 8 := hC8
                      have x6 := y6 k
                      obtain ⟨X, eX⟩ : ∃ x, x = (up (up (dpk (blkT (chn0 T C set v d) C n) n set v k) 8 C (cntk set k * v)) 25 C (-1)) := ⟨_, rfl⟩
                      rw [← eX] at hW vc vs hc0 x6
                      refine aw_iload (pcn := 129) dX6_channel_127 rfl rfl ?_
                      refine aw_bipush (v := nI 6) (pcn := 131) dX6_channel_129 rfl (by decide) ?_
                      refine aw_icmp_ge (t := 183) (pcn := 134) dX6_channel_131 rfl (by decide) (fun q => absurd q (nI_ge (by omega) (by omega))) (fun _ => ?_)
                      have hk6 : k < 6 := by omega
                      refine aw_aload (pcn := 136) dX6_channel_134 rfl rfl (rf_some _) ?_
                      refine aw_iload (pcn := 138) dX6_channel_136 rfl rfl ?_
                      obtain ⟨g, hc, hg⟩ := hW.ch (c := C) vc
                      refine aw_Vi (pcn := 141) (c_hasM0R hW (c := C) (p := k) vc (by rw [x6]; exact hset) hk6) mf_X0_hasMember mv_X0_hasMember hc rfl ml_X6_71 rfl (by decide) (by decide) (by decide) (by exact Nat.le_of_ble_eq_true rfl) rfl dX6_channel_138 rfl (fun r h2 hq => ?_)
                      obtain ⟨rfl, hq⟩ := hq
                      obtain rfl := hq.symm
                      rw [x6]
                      refine aw_if_eqB (t := 177) (pcn := 144) dX6_channel_141 rfl (by decide) (fun q9 => ?_) (fun q9 => ?_)
                      · refine aw_iincN (pcn := 180) dX6_channel_177 rfl (by decide) rfl ?_
                        dsimp only [List.set_cons_zero, List.set_cons_succ]
                        refine aw_goto (t := 127) dX6_channel_180 (by decide) ?_
                        refine ih (k + 1) (by omega) h (hW.eq ?_)
                        subst eX
                        show _ = up (up (dep1 (dpk (blkT (chn0 T C set v d) C n) n set v k) n set v k) 8 C ((if hasB set (nI k) = true then cntk set k + 1 else cntk set k) * v)) 25 C (-1)
                        unfold dep1
                        first | (rw [if_pos q9, if_pos q9, Int32.add_mul, Int32.one_mul]; exact dpk_st2 _ _ _ _ _ _) | (rw [if_neg (by rw [q9]; decide), if_neg (by rw [q9]; decide)])
                      · refine aw_alo 0 (pcn := 145) rfl dX6_channel_144 rfl rfl (rf_some _) ?_
                        refine aw_getf (pcn := 148) fl_X6_10 dX6_channel_145 rfl hW.sc rfl ?_
                        refine aw_iload (pcn := 150) dX6_channel_148 rfl rfl ?_
                        refine aw_ilo 2 (pcn := 151) rfl dX6_channel_150 rfl rfl ?_
                        refine aw_ineg (pcn := 152) dX6_channel_151 rfl ?_
                        refine aw_Vv (pcn := 155) (c_add0 hW.acc.1 hW.acc.2 hk6 _) mf_X5_add mv_X5_add hW.acc.1 rfl ml_X6_74 rfl (by decide) (by decide) (by decide) (by exact Nat.le_of_ble_eq_true rfl) rfl dX6_channel_152 rfl (fun h hq => ?_)
                        have hW := hW.accW k (X 0 k + -v)
                        rw [← hq] at hW
                        clear hq
                        refine aw_aload (pcn := 157) dX6_channel_155 rfl rfl (rf_some _) ?_
                        refine aw_dup (pcn := 158) dX6_channel_157 rfl rfl ?_
                        obtain ⟨g, hc, hg⟩ := hW.ch (c := C) vc
                        refine aw_getf (pcn := 161) fl_X6_77 dX6_channel_158 rfl hc rfl ?_
                        refine aw_ilo 2 (pcn := 162) rfl dX6_channel_161 rfl rfl ?_
                        refine aw_iadd (pcn := 163) dX6_channel_162 rfl ?_
                        refine aw_putC (pcn := 166) hW vc hc fp_X6_77 (by decide) (VF.i _) (cs_3 _ _ _ _ _) (hW.chW vc hg (j := 8) (by omega)) dX6_channel_163 rfl (fun h hW hk => ?_)
                        refine aw_aload (pcn := 168) dX6_channel_166 rfl rfl (rf_some _) ?_
                        obtain ⟨gs, hs, hgs⟩ := hW.st (s := n) vs hc8 hc0
                        refine aw_getf (pcn := 171) fl_X6_80 dX6_channel_168 rfl hs rfl ?_
                        refine aw_iload (pcn := 173) dX6_channel_171 rfl rfl ?_
                        refine aw_ilo 2 (pcn := 174) rfl dX6_channel_173 rfl rfl ?_
                        obtain ⟨fs, hsh1, hsh2, hsh3⟩ := hW.sh (s := n) vs
                        refine aw_Vv (pcn := 177) (c_put0 hsh1 hsh2 hk6 v) mf_X5_put mv_X5_put hsh1 rfl ml_X6_38 rfl (by decide) (by decide) (by decide) (by exact Nat.le_of_ble_eq_true rfl) rfl dX6_channel_174 rfl (fun h hq => ?_)
                        have hW := hW.shW (s := n) vs hsh3 hk6 v
                        rw [← hq] at hW
                        clear hq
                        refine aw_iincN (pcn := 180) dX6_channel_177 rfl (by decide) rfl ?_
                        dsimp only [List.set_cons_zero, List.set_cons_succ]
                        refine aw_goto (t := 127) dX6_channel_180 (by decide) ?_
                        refine ih (k + 1) (by omega) h (hW.eq ?_)
                        subst eX
                        show _ = up (up (dep1 (dpk (blkT (chn0 T C set v d) C n) n set v k) n set v k) 8 C ((if hasB set (nI k) = true then cntk set k + 1 else cntk set k) * v)) 25 C (-1)
                        unfold dep1
                        first | (rw [if_pos q9, if_pos q9, Int32.add_mul, Int32.one_mul]; exact dpk_st2 _ _ _ _ _ _) | (rw [if_neg (by rw [q9]; decide), if_neg (by rw [q9]; decide)])
                  exact H 6 0 rfl h2 hW
                · refine aw_bipush (v := -4) (pcn := 79) dX6_channel_77 rfl (by decide) ?_
                  exact aw_iret dX6_channel_79 rfl ⟨_, rfl, ret5 (by unfold channelT; rw [if_neg (by rw [hs1]; decide), if_neg (by rintro (x | x | x); rw [q3] at x; cases x; rw [q4] at x; cases x; rw [q5] at x; cases x), if_pos (Or.inr (Or.inr (by cases e : poorT T set v with | true => rfl | false => rw [e] at q8; cases q8)))]) (fun _ _ _ => rfl) hW⟩
          · refine aw_bipush (v := -3) (pcn := 47) dX6_channel_45 rfl (by decide) ?_
            exact aw_iret dX6_channel_47 rfl ⟨_, rfl, ret5 (by unfold channelT; rw [if_neg (by rw [hs1]; decide), if_pos (Or.inr (Or.inr q5))]) (fun _ _ _ => rfl) hW⟩
    · refine aw_iconst (v := -1) (pcn := 11) dX6_channel_10 rfl (by decide) ?_
      exact aw_iret dX6_channel_11 rfl ⟨_, rfl, ret5 (by unfold channelT; rw [if_pos (by unfold inR; first | (rw [decide_eq_false (p := nI 0 ≤ set) (by rw [nI_0]; exact q2), Bool.false_and]; done) | (rw [decide_eq_false (p := set ≤ nI 63) q2, Bool.and_false]; done))]) (fun _ _ _ => rfl) hW⟩
