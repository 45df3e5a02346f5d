/-! the law's loop, and its entry -/
theorem idx_lt {Ln j : Nat} (h : Ln ≤ 448) (hj : j ≤ 64) : nI Ln - nI 7 < nI (7 * j) ↔ Ln < 7 * j + 7 := by
  rw [Int32.lt_iff_toInt_lt, pk_sub_toInt (by omega) (by omega)]
  have e := pk_sub_toInt (a := 7 * j) (b := 0) (by omega) (by omega)
  rw [pk_sub (Nat.zero_le _), Nat.sub_zero] at e
  rw [e]
  omega
section LAWL
variable {X : XG} {l : Launch} {nm : String} {b Ln : Nat} {xs : Nat → Int32}
set_option maxHeartbeats 1600000 in
set_option maxRecDepth 20000 in
theorem law_sw {kb nb j : Nat} {Γ : NM} {ow : Nat → Nat × Nat} {h : Hp} {T : TB} {C N Z hN : Nat} (hj : 7 * j + 7 ≤ Ln) (h448 : Ln ≤ 448) (hW : WD Γ ow h T T hN) (hI : Iv j T C N Z hN) (K : NX X l nm b Ln xs kb nb j Γ) : AW X l cL_law RL nm (some .boolean) 4 9 (some (b, Ln, xs)) QL (4800 + kb) (19200 + nb) 27 [some (.ref b), some (.ref (Γ 0 0)), some (.ref (Γ 14 0)), some (.int (nI (7 * j)))] [] h := by
  refine aw_alo 0 (pcn := 28) rfl dL_law_27 rfl rfl (rf_some _) ?_
  refine aw_ilo 3 (pcn := 29) rfl dL_law_28 rfl rfl ?_
  refine aw_sald (pcn := 30) rfl dL_law_29 rfl (vp_in_nI (show 7 * j < Ln by omega) (by omega)) ?_
  refine aw_bipush (v := nI 31) (pcn := 32) dL_law_30 rfl (by decide) ?_
  refine aw_iand (pcn := 33) dL_law_32 rfl ?_
  generalize xs (nI (7 * j)).toNatClampNeg &&& nI 31 = w
  have D : AW X l cL_law RL nm (some .boolean) 4 9 (some (b, Ln, xs)) QL (4800 + kb) (19200 + nb) 1164 [some (.ref b), some (.ref (Γ 0 0)), some (.ref (Γ 14 0)), some (.int (nI (7 * j)))] [] h := AW.le (by omega) (by omega) (K Γ ow _ _ _ _ _ _ rfl rfl hW hI.succ)
  rcases pk_ix w (n := 26) (by decide) with hsw | hsw | ⟨jj, hjj, rfl⟩
  · exact aw_tsOut (t := 1164) dL_law_33 (Or.inl (ts_lo hsw)) (by decide) D
  · exact aw_tsOut (t := 1164) dL_law_33 (Or.inr (ts_hi 26 (by decide) hsw)) (by decide) D
  · rcases (show jj = 0 ∨ jj = 1 ∨ jj = 2 ∨ jj = 3 ∨ jj = 4 ∨ jj = 5 ∨ jj = 6 ∨ jj = 7 ∨ jj = 8 ∨ jj = 9 ∨ jj = 10 ∨ jj = 11 ∨ jj = 12 ∨ jj = 13 ∨ jj = 14 ∨ jj = 15 ∨ jj = 16 ∨ jj = 17 ∨ jj = 18 ∨ jj = 19 ∨ jj = 20 ∨ jj = 21 ∨ jj = 22 ∨ jj = 23 ∨ jj = 24 ∨ jj = 25 by omega) with rfl | rfl | rfl | rfl | rfl | rfl | rfl | rfl | rfl | rfl | rfl | rfl | rfl | rfl | rfl | rfl | rfl | rfl | rfl | rfl | rfl | rfl | rfl | rfl | rfl | rfl
    · exact aw_tsIn (off := 119) (t := 152) dL_law_33 (by decide) (by decide) (by decide) (by decide) (lw_channel hj h448 hW hI K)
    · exact aw_tsIn (off := 162) (t := 195) dL_law_33 (by decide) (by decide) (by decide) (by decide) (lw_state hj h448 hW hI K)
    · exact aw_tsIn (off := 185) (t := 218) dL_law_33 (by decide) (by decide) (by decide) (by decide) (lw_change hj h448 hW hI K)
    · exact aw_tsIn (off := 238) (t := 271) dL_law_33 (by decide) (by decide) (by decide) (by decide) (lw_lock hj h448 hW hI K)
    · exact aw_tsIn (off := 313) (t := 346) dL_law_33 (by decide) (by decide) (by decide) (by decide) (lw_unlock hj h448 hW hI K)
    · exact aw_tsIn (off := 372) (t := 405) dL_law_33 (by decide) (by decide) (by decide) (by decide) (lw_game hj h448 hW hI K)
    · exact aw_tsIn (off := 435) (t := 468) dL_law_33 (by decide) (by decide) (by decide) (by decide) (lw_move hj h448 hW hI K)
    · exact aw_tsIn (off := 468) (t := 501) dL_law_33 (by decide) (by decide) (by decide) (by decide) (lw_out hj h448 hW hI K)
    · exact aw_tsIn (off := 511) (t := 544) dL_law_33 (by decide) (by decide) (by decide) (by decide) (lw_sign hj h448 hW hI K)
    · exact aw_tsIn (off := 544) (t := 577) dL_law_33 (by decide) (by decide) (by decide) (by decide) (lw_show hj h448 hW hI K)
    · exact aw_tsIn (off := 577) (t := 610) dL_law_33 (by decide) (by decide) (by decide) (by decide) (lw_agree hj h448 hW hI K)
    · exact aw_tsIn (off := 610) (t := 643) dL_law_33 (by decide) (by decide) (by decide) (by decide) (lw_secret hj h448 hW hI K)
    · exact aw_tsIn (off := 633) (t := 666) dL_law_33 (by decide) (by decide) (by decide) (by decide) (lw_tell hj h448 hW hI K)
    · exact aw_tsIn (off := 676) (t := 709) dL_law_33 (by decide) (by decide) (by decide) (by decide) (lw_claim hj h448 hW hI K)
    · exact aw_tsIn (off := 719) (t := 752) dL_law_33 (by decide) (by decide) (by decide) (by decide) (lw_step hj h448 hW hI K)
    · exact aw_tsIn (off := 762) (t := 795) dL_law_33 (by decide) (by decide) (by decide) (by decide) (lw_watch hj h448 hW hI K)
    · exact aw_tsIn (off := 811) (t := 844) dL_law_33 (by decide) (by decide) (by decide) (by decide) (lw_height hj h448 hW hI K)
    · exact aw_tsIn (off := 834) (t := 867) dL_law_33 (by decide) (by decide) (by decide) (by decide) (lw_hop hj h448 hW hI K)
    · exact aw_tsIn (off := 877) (t := 910) dL_law_33 (by decide) (by decide) (by decide) (by decide) (lw_pay hj h448 hW hI K)
    · exact aw_tsIn (off := 910) (t := 943) dL_law_33 (by decide) (by decide) (by decide) (by decide) (lw_account hj h448 hW hI K)
    · exact aw_tsIn (off := 933) (t := 966) dL_law_33 (by decide) (by decide) (by decide) (by decide) (lw_told hj h448 hW hI K)
    · exact aw_tsIn (off := 966) (t := 999) dL_law_33 (by decide) (by decide) (by decide) (by decide) (lw_of hj h448 hW hI K)
    · exact aw_tsIn (off := 999) (t := 1032) dL_law_33 (by decide) (by decide) (by decide) (by decide) (lw_share hj h448 hW hI K)
    · exact aw_tsIn (off := 1042) (t := 1075) dL_law_33 (by decide) (by decide) (by decide) (by decide) (lw_locked hj h448 hW hI K)
    · exact aw_tsIn (off := 1085) (t := 1118) dL_law_33 (by decide) (by decide) (by decide) (by decide) (lw_knows hj h448 hW hI K)
    · exact aw_tsIn (off := 1108) (t := 1141) dL_law_33 (by decide) (by decide) (by decide) (by decide) (lw_count hj h448 hW hI K)
set_option maxRecDepth 20000 in
theorem law_loop (h448 : Ln ≤ 448) (m : Nat) : ∀ (j : Nat) (Γ : NM) (ow : Nat → Nat × Nat) (h : Hp) (T : TB) (C N Z hN : Nat), j + m = 64 → WD Γ ow h T T hN → Iv j T C N Z hN → AW X l cL_law RL nm (some .boolean) 4 9 (some (b, Ln, xs)) QL (4800 * m) (19200 * m) 18 [some (.ref b), some (.ref (Γ 0 0)), some (.ref (Γ 14 0)), some (.int (nI (7 * j)))] [] h := by
  induction m with
  | zero =>
    intro j Γ ow h T C N Z hN hm hW hI
    refine aw_ilo 3 (pcn := 19) rfl dL_law_18 rfl rfl ?_
    refine aw_alo 0 (pcn := 20) rfl dL_law_19 rfl rfl (rf_some _) ?_
    refine aw_slen (v := nI Ln) (pcn := 21) rfl dL_law_20 rfl rfl ?_
    refine aw_bipush (v := nI 7) (pcn := 23) dL_law_21 rfl (by decide) ?_
    refine aw_isub (pcn := 24) dL_law_23 rfl ?_
    refine aw_icmp_gt (t := 1170) (pcn := 27) dL_law_24 rfl (by decide) (fun _ => ?_) (fun q => absurd ((idx_lt h448 (by omega)).mpr (by omega)) q)
    refine aw_iconst (v := 1) (pcn := 1171) dL_law_1170 rfl (by decide) ?_
    exact aw_zret dL_law_1171 rfl (by decide) rfl
  | succ m ih =>
    intro j Γ ow h T C N Z hN hm hW hI
    refine aw_ilo 3 (pcn := 19) rfl dL_law_18 rfl rfl ?_
    refine aw_alo 0 (pcn := 20) rfl dL_law_19 rfl rfl (rf_some _) ?_
    refine aw_slen (v := nI Ln) (pcn := 21) rfl dL_law_20 rfl rfl ?_
    refine aw_bipush (v := nI 7) (pcn := 23) dL_law_21 rfl (by decide) ?_
    refine aw_isub (pcn := 24) dL_law_23 rfl ?_
    refine aw_icmp_gt (t := 1170) (pcn := 27) dL_law_24 rfl (by decide) (fun _ => ?_) (fun q => ?_)
    · refine aw_iconst (v := 1) (pcn := 1171) dL_law_1170 rfl (by decide) ?_
      exact aw_zret dL_law_1171 rfl (by decide) rfl
    · have hj : 7 * j + 7 ≤ Ln := Nat.not_lt.mp (fun e => q ((idx_lt h448 (by omega)).mpr e))
      refine AW.le (k' := 4800 + 4800 * m) (n' := 19200 + 19200 * m) (by omega) (by omega) (law_sw hj h448 hW hI (fun Γ' ow' h' T' C' N' Z' hN' e0 e14 hW' hI' => ?_))
      refine aw_iinc (v := nI (7 * (j + 1))) (pcn := 1167) dL_law_1164 rfl (by decide) rfl (by rw [show (Int32.ofInt 7) = nI 7 by decide, nI_add]; rfl) ?_
      dsimp only [List.set_cons_zero, List.set_cons_succ]
      refine aw_goto (t := 18) dL_law_1167 (by decide) ?_
      exact ih (j + 1) Γ' ow' h' T' C' N' Z' hN' (by omega) hW' hI'
set_option maxHeartbeats 1600000 in
set_option maxRecDepth 20000 in
theorem law_body (h448 : Ln ≤ 448) : AW X l cL_law RL nm (some .boolean) 4 9 (some (b, Ln, xs)) QL 600000 7302250 0 [some (.ref b), none, none, none] [] (fun _ => none) := by
  refine aw_new 11 (pcn := 3) nw_L_7 rfl dL_law_0 rfl (by decide) (by decide) (fun a0 z0 => ?_)
  refine aw_dup (pcn := 4) dL_law_3 rfl rfl ?_
  refine aw_Iv (rty := none) (pcn := 7) (c_init (hup_s _ _ _)) mf_X6_init mv_X6_init rfl ml_L_9 rfl (by decide) (by decide) (by decide) (by exact Nat.le_of_ble_eq_true rfl) rfl dL_law_4 rfl (fun hA hq => ?_)
  obtain ⟨p1, p2, p3, p4, p5, p6, I1⟩ := hq
  refine aw_ast 1 (pcn := 8) rfl dL_law_7 rfl (by decide) (rf_some _) ?_
  dsimp only [List.set_cons_zero, List.set_cons_succ]
  refine aw_new 24 (pcn := 11) nw_L_10 rfl dL_law_8 rfl (by decide) (by decide) (fun m0 z1 => ?_)
  refine aw_dup (pcn := 12) dL_law_11 rfl rfl ?_
  refine aw_Iv (rty := none) (pcn := 15) (r_init (hup_s _ _ _)) mf_X7_init mv_X7_init rfl ml_L_12 rfl (by decide) (by decide) (by decide) (by exact Nat.le_of_ble_eq_true rfl) rfl dL_law_12 rfl (fun hB hq => ?_)
  obtain ⟨b0, b4, b6, b7, b8, b9, b10, b11, b12, b13, b14, b15, b16, b17, b19, b21, b22, b23, I2⟩ := hq
  refine aw_ast 2 (pcn := 16) rfl dL_law_15 rfl (by decide) (rf_some _) ?_
  dsimp only [List.set_cons_zero, List.set_cons_succ]
  refine aw_iconst (v := nI 0) (pcn := 17) dL_law_16 rfl (by decide) ?_
  refine aw_ist 3 (pcn := 18) rfl dL_law_17 rfl (by decide) ?_
  dsimp only [List.set_cons_zero, List.set_cons_succ]
  obtain ⟨ow, hW⟩ := WD_start rfl z1 I1 I2
  exact AW.le (by decide) (by decide) (law_loop h448 64 0 _ ow _ T0 0 0 0 0 rfl hW Iv_0)
end LAWL
