/-! the reference: watches, oneMore -/
theorem ph13 {x : Int32} (h : x = nI 1) : ¬ x = nI 3 := by rw [h]; decide
theorem ph23 {x : Int32} (h : x = nI 2) : ¬ x = nI 3 := by rw [h]; decide
theorem AW.forget (i : Nat) {X : XG} {l : Launch} {cc : ByteArray} {own nm : String} {rt : Option FieldType} {nL fr : Nat} {scr : Scr} {Q : Post} {k n pc : Nat} {L : List (Option Value)} {st : List Value} {h : Hp}
    (kk : AW X l cc own nm rt nL fr scr Q k n pc (L.set i none) st h) : AW X l cc own nm rt nL fr scr Q k n pc L st h := by
  refine AW.loc (fun j v hv => ?_) kk
  by_cases e : i = j
  · subst e
    by_cases hl : i < L.length
    · rw [List.getElem?_set_self hl] at hv; cases hv
    · rw [List.getElem?_eq_none (by simp; omega)] at hv; cases hv
  · rwa [List.getElem?_set_ne e] at hv
theorem endT_j (T : TB) (c s : Nat) {j : Nat} (i : Nat) (h : j = 1 ∨ j = 2 ∨ j = 3 ∨ j = 4 ∨ j = 5 ∨ j = 6 ∨ j = 7 ∨ j = 11 ∨ j = 18 ∨ j = 19 ∨ j = 20 ∨ j = 21 ∨ j = 22 ∨ j = 23 ∨ j = 24) : endT T c s j i = T j i := by
  unfold endT eGhT eGmT
  rw [up_j _ _ _ _ (by omega), up_j _ _ _ _ (by omega), up_j _ _ _ _ (by omega), up_j _ _ _ _ (by omega), up_j _ _ _ _ (by omega), up_j _ _ _ _ (by omega), up_j _ _ _ _ (by omega), up_j _ _ _ _ (by omega), eLkT_j _ _ _ _ _ (by omega) (by omega) (by omega), eLkT_j _ _ _ _ _ (by omega) (by omega) (by omega), eLkT_j _ _ _ _ _ (by omega) (by omega) (by omega), eShT_j _ _ _ _ _ (by omega) (by omega), up_j _ _ _ _ (by omega), up_j _ _ _ _ (by omega), up_j _ _ _ _ (by omega)]
theorem endT_10 (T : TB) (c s : Nat) : endT T c s 10 c = nI s := by
  unfold endT eGhT eGmT
  rw [up_j _ _ _ _ (by decide), up_j _ _ _ _ (by decide), up_j _ _ _ _ (by decide), up_j _ _ _ _ (by decide), up_j _ _ _ _ (by decide), up_j _ _ _ _ (by decide), up_j _ _ _ _ (by decide), up_j _ _ _ _ (by decide), eLkT_j _ _ _ _ _ (by decide) (by decide) (by decide), eLkT_j _ _ _ _ _ (by decide) (by decide) (by decide), eLkT_j _ _ _ _ _ (by decide) (by decide) (by decide), eShT_j _ _ _ _ _ (by decide) (by decide), up_j _ _ _ _ (by decide), up_s]
/-- before the game: what the ended state's rows tell -/
def endP (T : TB) (c s : Nat) : TB := eLkT (eLkT (eLkT (eShT (up (up (up T 9 c (nI 3)) 10 c (nI s)) 12 c (nI 0)) c s 6) c s 0) c s 1) c s 2
theorem endP_19 (T : TB) (c s x : Nat) : endP T c s 19 x = T 19 x := by
  unfold endP
  rw [eLkT_j _ _ _ _ _ (by decide) (by decide) (by decide), eLkT_j _ _ _ _ _ (by decide) (by decide) (by decide), eLkT_j _ _ _ _ _ (by decide) (by decide) (by decide), eShT_j _ _ _ _ _ (by decide) (by decide), up_j _ _ _ _ (by decide), up_j _ _ _ _ (by decide), up_j _ _ _ _ (by decide)]
theorem endT_13 (T : TB) (c s : Nat) : endT T c s 13 c = T 19 (35 * s + 31) := by
  show eGhT (eGmT (endP T c s) c s) c s 13 c = _
  unfold eGhT eGmT
  rw [up_j _ _ _ _ (by decide), up_j _ _ _ _ (by decide), up_j _ _ _ _ (by decide), up_j _ _ _ _ (by decide), up_j _ _ _ _ (by decide), up_j _ _ _ _ (by decide), up_j _ _ _ _ (by decide), up_s, endP_19]
theorem endT_16 (T : TB) (c s : Nat) : endT T c s 16 c = T 19 (35 * s + 34) := by
  show eGhT (eGmT (endP T c s) c s) c s 16 c = _
  unfold eGhT eGmT
  rw [up_j _ _ _ _ (by decide), up_j _ _ _ _ (by decide), up_j _ _ _ _ (by decide), up_j _ _ _ _ (by decide), up_s]
  exact endP_19 _ _ _ _
theorem clmT_j (T : TB) (c b k p : Nat) {j : Nat} (i : Nat) (h0 : j ≠ 0) (h4 : j ≠ 4) (h8 : j ≠ 8) (h12 : j ≠ 12) : clmT T c b k p j i = T j i := by
  unfold clmT
  rw [paysT_j _ _ _ _ _ _ h0 h8 h12, up_j _ _ _ _ h4]
theorem cwT_j (T : TB) (c b p k : Nat) {j : Nat} (i : Nat) (h0 : j ≠ 0) (h4 : j ≠ 4) (h8 : j ≠ 8) (h12 : j ≠ 12) : cwT T c b p k j i = T j i := by
  unfold cwT
  split
  · exact clmT_j _ _ _ _ _ _ h0 h4 h8 h12
  · rfl
theorem nwT_ch {T : TB} {c : Nat} {n s : Nat} (hn : n ≤ 64) (hs : s < 64) (h : nwT T c n = nI s) : s < n ∧ T 19 (35 * s + 0) = nI c ∧ cnt T c s = true := by
  induction n with
  | zero => exact absurd h (by rw [nwT]; exact fun e => absurd (nI_pos (n := s) (by omega)) (by rw [← e]; decide))
  | succ n ih =>
    rw [nwT] at h
    split at h
    · rename_i q
      rw [nI_eq (by omega) (by omega)] at h
      subst h
      exact ⟨by omega, q⟩
    · obtain ⟨h1, h2⟩ := ih (by omega) h
      exact ⟨by omega, h2⟩
set_option maxHeartbeats 8000000 in
set_option maxRecDepth 20000 in
theorem r_watches {X : XG} {l : Launch} {Γ : NM} {ow : Nat → Nat × Nat} {h : Hp} {T Tr : TB} {nh : Nat} (hW : WD Γ ow h T Tr nh) {c n s0 b P : Nat} (hc8 : c < 8) (hP : P < 6) (hn64 : n ≤ 64) (hn : Tr 18 0 = nI n) (hs : ¬ Tr 9 c = nI 3 → nwT Tr c n = nI s0 ∧ Tr 19 (35 * s0 + 0) = nI c) (hs0 : s0 < 64) (hph : Tr 9 c = nI 1 ∨ Tr 9 c = nI 2 ∨ Tr 9 c = nI 3) (hb : ¬ Tr 9 c = nI 1 → Tr 10 c = nI b) (hb64 : b < 64) (hz0 : ∀ k, k < 3 → okI (Tr 19 (35 * s0 + 16 + 5 * k + 3)) 16) (hzb : ∀ k, k < 3 → okI (Tr 19 (35 * b + 16 + 5 * k + 3)) 16) : AM X l yX7_watches cX7_watches 7 (none) 4 0 0 [.ref (Γ 14 0), .int (nI P), .int (nI c)] h (qv fun h' => WD Γ ow h' T (watT Tr c s0 b P) nh) := by
  refine AM.of (by decide +kernel) (by simp [Value.category]) (Nat.le_of_ble_eq_true rfl) ?_
  show AW X l cX7_watches RX7 "watches" (none) 7 4 none _ 0 0 0 [some (.ref (Γ 14 0)), some (.int (nI P)), some (.int (nI c)), none, none, none, none] [] h
  refine aw_alo 0 (pcn := 1) rfl dX7_watches_0 rfl rfl (rf_some _) ?_
  refine aw_ilo 2 (pcn := 2) rfl dX7_watches_1 rfl rfl ?_
  refine aw_Vi (pcn := 5) (r_newest hW (c := c) (n := n) hc8 hn64 hn) mf_X7_newest mv_X7_newest hW.mo rfl ml_X7_117 rfl (by decide) (by decide) (by decide) (by exact Nat.le_of_ble_eq_true rfl) rfl dX7_watches_2 rfl (fun r h2 hq => ?_)
  obtain ⟨rfl, hq⟩ := hq
  obtain rfl := hq.symm
  refine aw_ist 3 (pcn := 6) rfl dX7_watches_5 rfl (by decide) ?_
  dsimp only [List.set_cons_zero, List.set_cons_succ]
  refine aw_alo 0 (pcn := 7) rfl dX7_watches_6 rfl rfl (rf_some _) ?_
  refine aw_getf (pcn := 10) fl_X7_25 dX7_watches_7 rfl hW.mo rfl ?_
  refine aw_ilo 2 (pcn := 11) rfl dX7_watches_10 rfl rfl ?_
  refine aw_ialdM (j := 9) (pcn := 12) hW dX7_watches_11 rfl (show _ < 8 by omega) ?_
  refine aw_iconst (v := nI 1) (pcn := 13) dX7_watches_12 rfl (by decide) ?_
  refine aw_icmp_ne (t := 138) (pcn := 16) dX7_watches_13 rfl (by decide) (fun q1 => ?_) (fun q1 => ?_)
  · refine aw_alo 0 (pcn := 139) rfl dX7_watches_138 rfl rfl (rf_some _) ?_
    refine aw_getf (pcn := 142) fl_X7_25 dX7_watches_139 rfl hW.mo rfl ?_
    refine aw_ilo 2 (pcn := 143) rfl dX7_watches_142 rfl rfl ?_
    refine aw_ialdM (j := 9) (pcn := 144) hW dX7_watches_143 rfl (show _ < 8 by omega) ?_
    refine aw_iconst (v := nI 2) (pcn := 145) dX7_watches_144 rfl (by decide) ?_
    refine aw_icmp_ne (t := 156) (pcn := 148) dX7_watches_145 rfl (by decide) (fun q2 => ?_) (fun q2 => ?_)
    · refine aw_iconst (v := nI 0) (pcn := 157) dX7_watches_156 rfl (by decide) ?_
      refine aw_istore (pcn := 159) dX7_watches_157 rfl (by decide) ?_
      dsimp only [List.set_cons_zero, List.set_cons_succ]
      have body : ∀ (k : Nat), k < 3 → ∀ (T1 : TB) (h : Hp), WD Γ ow h T T1 nh → T1 10 c = nI b → (∀ x, T1 19 x = Tr 19 x) → (∀ h, WD Γ ow h T (cwT T1 c b P k) nh → AW X l cX7_watches RX7 "watches" (none) 7 4 none (qv fun h' => WD Γ ow h' T (watT Tr c s0 b P) nh) 0 0 159 [some (.ref (Γ 14 0)), some (.int (nI P)), some (.int (nI c)), some (.int (nwT Tr c n)), some (.int (nI (k + 1))), none, none] [] h) → AW X l cX7_watches RX7 "watches" (none) 7 4 none (qv fun h' => WD Γ ow h' T (watT Tr c s0 b P) nh) 0 0 159 [some (.ref (Γ 14 0)), some (.int (nI P)), some (.int (nI c)), some (.int (nwT Tr c n)), some (.int (nI (k))), none, none] [] h := by
        intro k hk T1 h hW h10 h19 kk
        obtain ⟨Z, hZ, hz1⟩ := hzb k hk
        have hz2 : T1 19 (35 * b + 16 + 5 * k + 3) = nI Z := (h19 _).trans hz1
        refine aw_iload (pcn := 161) dX7_watches_159 rfl rfl ?_
        refine aw_iconst (v := nI 3) (pcn := 162) dX7_watches_161 rfl (by decide) ?_
        refine aw_icmp_ge (t := 192) (pcn := 165) dX7_watches_162 rfl (by decide) (fun q => absurd q (nI_ge hk (by decide))) (fun _ => ?_)
        refine aw_alo 0 (pcn := 166) rfl dX7_watches_165 rfl rfl (rf_some _) ?_
        refine aw_ilo 2 (pcn := 167) rfl dX7_watches_166 rfl rfl ?_
        refine aw_iload (pcn := 169) dX7_watches_167 rfl rfl ?_
        refine aw_ilo 1 (pcn := 170) rfl dX7_watches_169 rfl rfl ?_
        refine aw_Vi (pcn := 173) (r_canClaim hW (c := c) (b := b) (K := k) (P0 := P) (Z := Z) hc8 h10 hb64 hk (fun _ => ⟨hz2, hZ⟩)) mf_X7_canClaim mv_X7_canClaim hW.mo rfl ml_X7_124 rfl (by decide) (by decide) (by decide) (by exact Nat.le_of_ble_eq_true rfl) rfl dX7_watches_170 rfl (fun r h2 hq => ?_)
        obtain ⟨rfl, hq⟩ := hq
        obtain rfl := hq.symm
        refine aw_if_eqB (t := 186) (pcn := 176) dX7_watches_173 rfl (by decide) (fun q3 => ?_) (fun q3 => ?_)
        · refine aw_iincN (pcn := 189) dX7_watches_186 rfl (by decide) rfl ?_
          dsimp only [List.set_cons_zero, List.set_cons_succ]
          refine aw_goto (t := 159) dX7_watches_189 (by decide) ?_
          refine AW.forget 5 ?_
          dsimp only [List.set_cons_zero, List.set_cons_succ]
          refine kk h ?_
          first | (rw [cwT, if_pos (by assumption)]; exact hW) | (rw [cwT, if_neg (by simp_all)]; exact hW)
        · refine aw_alo 0 (pcn := 177) rfl dX7_watches_176 rfl rfl (rf_some _) ?_
          refine aw_ilo 2 (pcn := 178) rfl dX7_watches_177 rfl rfl ?_
          refine aw_iload (pcn := 180) dX7_watches_178 rfl rfl ?_
          refine aw_ilo 1 (pcn := 181) rfl dX7_watches_180 rfl rfl ?_
          refine aw_Vi (pcn := 184) (r_claims hW (c := c) (b := b) (K := k) (P0 := P) (Z := Z) hc8 h10 hb64 hk hP hz2 hZ) mf_X7_claims mv_X7_claims hW.mo rfl ml_X7_127 rfl (by decide) (by decide) (by decide) (by exact Nat.le_of_ble_eq_true rfl) rfl dX7_watches_181 rfl (fun r h hq => ?_)
          obtain ⟨rfl, hW⟩ := hq
          refine aw_istore (pcn := 186) dX7_watches_184 rfl (by decide) ?_
          dsimp only [List.set_cons_zero, List.set_cons_succ]
          refine aw_iincN (pcn := 189) dX7_watches_186 rfl (by decide) rfl ?_
          dsimp only [List.set_cons_zero, List.set_cons_succ]
          refine aw_goto (t := 159) dX7_watches_189 (by decide) ?_
          refine AW.forget 5 ?_
          dsimp only [List.set_cons_zero, List.set_cons_succ]
          refine kk h ?_
          first | (rw [cwT, if_pos (by assumption)]; exact hW) | (rw [cwT, if_neg (by simp_all)]; exact hW)
      have l10 : ∀ T1 k, (T1 : TB) 10 c = nI b → cwT T1 c b P k 10 c = nI b := fun T1 k q => by rw [cwT_j _ _ _ _ _ _ (by decide) (by decide) (by decide) (by decide)]; exact q
      have l19 : ∀ T1 k, (∀ x, (T1 : TB) 19 x = Tr 19 x) → ∀ x, cwT T1 c b P k 19 x = Tr 19 x := fun T1 k q x => by rw [cwT_j _ _ _ _ _ _ (by decide) (by decide) (by decide) (by decide)]; exact q x
      have g10 : Tr 10 c = nI b := hb (by assumption)
      refine body 0 (by decide) _ h hW g10 (fun _ => rfl) (fun h hW => ?_)
      refine body 1 (by decide) _ h hW (l10 _ 0 g10) (l19 _ 0 (fun _ => rfl)) (fun h hW => ?_)
      refine body 2 (by decide) _ h hW (l10 _ 1 (l10 _ 0 g10)) (l19 _ 1 (l19 _ 0 (fun _ => rfl))) (fun h hW => ?_)
      have hW : WD Γ ow h T (cw3 Tr c b P) nh := hW
      refine aw_iload (pcn := 161) dX7_watches_159 rfl rfl ?_
      refine aw_iconst (v := nI 3) (pcn := 162) dX7_watches_161 rfl (by decide) ?_
      refine aw_icmp_ge (t := 192) (pcn := 165) dX7_watches_162 rfl (by decide) (fun q4 => ?_) (fun q4 => absurd (by decide) q4)
      refine aw_alo 0 (pcn := 193) rfl dX7_watches_192 rfl rfl (rf_some _) ?_
      refine aw_getf (pcn := 196) fl_X7_37 dX7_watches_193 rfl hW.mo rfl ?_
      refine aw_ilo 2 (pcn := 197) rfl dX7_watches_196 rfl rfl ?_
      refine aw_ialdM (j := 13) (pcn := 198) hW dX7_watches_197 rfl (show _ < 8 by omega) ?_
      refine aw_if_le (t := 246) (pcn := 201) dX7_watches_198 rfl (by decide) (fun q5 => ?_) (fun q5 => ?_)
      · exact aw_ret dX7_watches_246 rfl ⟨rfl, (by unfold watT; first | (rw [if_pos (by assumption), if_pos (by assumption)]; exact hW) | (rw [if_pos (by assumption), if_neg (by assumption)]; exact hW) | (rw [if_neg (by assumption), if_pos (by assumption)]; exact hW) | (rw [if_neg (by assumption), if_neg (by assumption)]; unfold plyT; first | (rw [if_pos ⟨Int32.not_le.mp (by assumption), by assumption⟩, if_pos (by assumption)]; exact hW) | (rw [if_pos ⟨Int32.not_le.mp (by assumption), by assumption⟩, if_neg (by assumption)]; exact hW) | (rw [if_neg (by rintro ⟨qa, qb⟩; first | contradiction | exact absurd qa (Int32.not_lt.mpr (by assumption)))]; exact hW)))⟩
      · refine aw_alo 0 (pcn := 202) rfl dX7_watches_201 rfl rfl (rf_some _) ?_
        refine aw_getf (pcn := 205) fl_X7_43 dX7_watches_202 rfl hW.mo rfl ?_
        refine aw_ilo 2 (pcn := 206) rfl dX7_watches_205 rfl rfl ?_
        refine aw_ialdM (j := 15) (pcn := 207) hW dX7_watches_206 rfl (show _ < 8 by omega) ?_
        refine aw_ilo 1 (pcn := 208) rfl dX7_watches_207 rfl rfl ?_
        refine aw_icmp_ne (t := 246) (pcn := 211) dX7_watches_208 rfl (by decide) (fun q6 => ?_) (fun q6 => ?_)
        · exact aw_ret dX7_watches_246 rfl ⟨rfl, (by unfold watT; first | (rw [if_pos (by assumption), if_pos (by assumption)]; exact hW) | (rw [if_pos (by assumption), if_neg (by assumption)]; exact hW) | (rw [if_neg (by assumption), if_pos (by assumption)]; exact hW) | (rw [if_neg (by assumption), if_neg (by assumption)]; unfold plyT; first | (rw [if_pos ⟨Int32.not_le.mp (by assumption), by assumption⟩, if_pos (by assumption)]; exact hW) | (rw [if_pos ⟨Int32.not_le.mp (by assumption), by assumption⟩, if_neg (by assumption)]; exact hW) | (rw [if_neg (by rintro ⟨qa, qb⟩; first | contradiction | exact absurd qa (Int32.not_lt.mpr (by assumption)))]; exact hW)))⟩
        · refine aw_alo 0 (pcn := 212) rfl dX7_watches_211 rfl rfl (rf_some _) ?_
          refine aw_getf (pcn := 215) fl_X7_40 dX7_watches_212 rfl hW.mo rfl ?_
          refine aw_ilo 2 (pcn := 216) rfl dX7_watches_215 rfl rfl ?_
          refine aw_ialdM (j := 14) (pcn := 217) hW dX7_watches_216 rfl (show _ < 8 by omega) ?_
          refine aw_iconst (v := nI 4) (pcn := 218) dX7_watches_217 rfl (by decide) ?_
          refine aw_irem (pcn := 219) dX7_watches_218 rfl (by decide) ?_
          refine aw_if_ne (t := 231) (pcn := 222) dX7_watches_219 rfl (by decide) (fun q7 => ?_) (fun q7 => ?_)
          · refine aw_alo 0 (pcn := 232) rfl dX7_watches_231 rfl rfl (rf_some _) ?_
            refine aw_ilo 2 (pcn := 233) rfl dX7_watches_232 rfl rfl ?_
            refine aw_alo 0 (pcn := 234) rfl dX7_watches_233 rfl rfl (rf_some _) ?_
            refine aw_getf (pcn := 237) fl_X7_40 dX7_watches_234 rfl hW.mo rfl ?_
            refine aw_ilo 2 (pcn := 238) rfl dX7_watches_237 rfl rfl ?_
            refine aw_ialdM (j := 14) (pcn := 239) hW dX7_watches_238 rfl (show _ < 8 by omega) ?_
            refine aw_iconst (v := nI 4) (pcn := 240) dX7_watches_239 rfl (by decide) ?_
            refine aw_irem (pcn := 241) dX7_watches_240 rfl (by decide) ?_
            refine aw_Vi (pcn := 244) (r_steps hW (c := c) (P0 := P) hc8 (by assumption) hP _) mf_X7_steps mv_X7_steps hW.mo rfl ml_X7_131 rfl (by decide) (by decide) (by decide) (by exact Nat.le_of_ble_eq_true rfl) rfl dX7_watches_241 rfl (fun r h hq => ?_)
            obtain ⟨rfl, hW⟩ := hq
            refine aw_istore (pcn := 246) dX7_watches_244 rfl (by decide) ?_
            dsimp only [List.set_cons_zero, List.set_cons_succ]
            exact aw_ret dX7_watches_246 rfl ⟨rfl, (by unfold watT; first | (rw [if_pos (by assumption), if_pos (by assumption)]; exact hW) | (rw [if_pos (by assumption), if_neg (by assumption)]; exact hW) | (rw [if_neg (by assumption), if_pos (by assumption)]; exact hW) | (rw [if_neg (by assumption), if_neg (by assumption)]; unfold plyT; first | (rw [if_pos ⟨Int32.not_le.mp (by assumption), by assumption⟩, if_pos (by assumption)]; exact hW) | (rw [if_pos ⟨Int32.not_le.mp (by assumption), by assumption⟩, if_neg (by assumption)]; exact hW) | (rw [if_neg (by rintro ⟨qa, qb⟩; first | contradiction | exact absurd qa (Int32.not_lt.mpr (by assumption)))]; exact hW)))⟩
          · refine aw_alo 0 (pcn := 223) rfl dX7_watches_222 rfl rfl (rf_some _) ?_
            refine aw_ilo 2 (pcn := 224) rfl dX7_watches_223 rfl rfl ?_
            refine aw_iconst (v := nI 1) (pcn := 225) dX7_watches_224 rfl (by decide) ?_
            refine aw_Vi (pcn := 228) (r_steps hW (c := c) (P0 := P) hc8 (by assumption) hP _) mf_X7_steps mv_X7_steps hW.mo rfl ml_X7_131 rfl (by decide) (by decide) (by decide) (by exact Nat.le_of_ble_eq_true rfl) rfl dX7_watches_225 rfl (fun r h hq => ?_)
            obtain ⟨rfl, hW⟩ := hq
            refine aw_goto (t := 244) dX7_watches_228 (by decide) ?_
            refine aw_istore (pcn := 246) dX7_watches_244 rfl (by decide) ?_
            dsimp only [List.set_cons_zero, List.set_cons_succ]
            exact aw_ret dX7_watches_246 rfl ⟨rfl, (by unfold watT; first | (rw [if_pos (by assumption), if_pos (by assumption)]; exact hW) | (rw [if_pos (by assumption), if_neg (by assumption)]; exact hW) | (rw [if_neg (by assumption), if_pos (by assumption)]; exact hW) | (rw [if_neg (by assumption), if_neg (by assumption)]; unfold plyT; first | (rw [if_pos ⟨Int32.not_le.mp (by assumption), by assumption⟩, if_pos (by assumption)]; exact hW) | (rw [if_pos ⟨Int32.not_le.mp (by assumption), by assumption⟩, if_neg (by assumption)]; exact hW) | (rw [if_neg (by rintro ⟨qa, qb⟩; first | contradiction | exact absurd qa (Int32.not_lt.mpr (by assumption)))]; exact hW)))⟩
    · obtain ⟨hs1, hc0⟩ := hs (by first | exact ph13 (by assumption) | exact ph23 (by assumption))
      rw [hs1]
      refine aw_alo 0 (pcn := 149) rfl dX7_watches_148 rfl rfl (rf_some _) ?_
      refine aw_ilo 3 (pcn := 150) rfl dX7_watches_149 rfl rfl ?_
      refine aw_Vv (pcn := 153) (r_shows hW (S := s0) (c := c) (b := b) hs0 hc8 hc0 (fun q => ⟨hb q, hb64⟩)) mf_X7_shows mv_X7_shows hW.mo rfl ml_X7_120 rfl (by decide) (by decide) (by decide) (by exact Nat.le_of_ble_eq_true rfl) rfl dX7_watches_150 rfl (fun h hW => ?_)
      refine aw_goto (t := 246) dX7_watches_153 (by decide) ?_
      exact aw_ret dX7_watches_246 rfl ⟨rfl, (by unfold watT; first | (rw [if_pos (by assumption), if_pos (by assumption)]; exact hW) | (rw [if_pos (by assumption), if_neg (by assumption)]; exact hW) | (rw [if_neg (by assumption), if_pos (by assumption)]; exact hW) | (rw [if_neg (by assumption), if_neg (by assumption)]; unfold plyT; first | (rw [if_pos ⟨Int32.not_le.mp (by assumption), by assumption⟩, if_pos (by assumption)]; exact hW) | (rw [if_pos ⟨Int32.not_le.mp (by assumption), by assumption⟩, if_neg (by assumption)]; exact hW) | (rw [if_neg (by rintro ⟨qa, qb⟩; first | contradiction | exact absurd qa (Int32.not_lt.mpr (by assumption)))]; exact hW)))⟩
  · obtain ⟨hs1, hc0⟩ := hs (by first | exact ph13 (by assumption) | exact ph23 (by assumption))
    rw [hs1]
    refine aw_iconst (v := nI 0) (pcn := 17) dX7_watches_16 rfl (by decide) ?_
    refine aw_istore (pcn := 19) dX7_watches_17 rfl (by decide) ?_
    dsimp only [List.set_cons_zero, List.set_cons_succ]
    refine aw_iconst (v := nI 0) (pcn := 20) dX7_watches_19 rfl (by decide) ?_
    refine aw_istore (pcn := 22) dX7_watches_20 rfl (by decide) ?_
    dsimp only [List.set_cons_zero, List.set_cons_succ]
    have body : ∀ (k : Nat), k < 3 → ∀ (D : Int32), (AW X l cX7_watches RX7 "watches" (none) 7 4 none (qv fun h' => WD Γ ow h' T (watT Tr c s0 b P) nh) 0 0 22 [some (.ref (Γ 14 0)), some (.int (nI P)), some (.int (nI c)), some (.int (nI s0)), some (.int (urI Tr c s0 P k D)), some (.int (nI (k + 1))), none] [] h) → AW X l cX7_watches RX7 "watches" (none) 7 4 none (qv fun h' => WD Γ ow h' T (watT Tr c s0 b P) nh) 0 0 22 [some (.ref (Γ 14 0)), some (.int (nI P)), some (.int (nI c)), some (.int (nI s0)), some (.int (D)), some (.int (nI (k))), none] [] h := by
      intro k hk D kk
      obtain ⟨Z, hZ, hz1⟩ := hz0 k hk
      refine aw_iload (pcn := 24) dX7_watches_22 rfl rfl ?_
      refine aw_iconst (v := nI 3) (pcn := 25) dX7_watches_24 rfl (by decide) ?_
      refine aw_icmp_ge (t := 125) (pcn := 28) dX7_watches_25 rfl (by decide) (fun q => absurd q (nI_ge hk (by decide))) (fun _ => ?_)
      refine aw_ilo 3 (pcn := 29) rfl dX7_watches_28 rfl rfl ?_
      refine aw_iload (pcn := 31) dX7_watches_29 rfl rfl ?_
      refine aw_Si (pcn := 34) (r_lockAt _ _) mf_X7_lockAt mv_X7_lockAt ml_X7_93 rfl (by decide) (by decide) (by decide) (by exact Nat.le_of_ble_eq_true rfl) rfl dX7_watches_31 rfl (fun r h2 hq => ?_)
      obtain ⟨rfl, hq⟩ := hq
      obtain rfl := hq.symm
      refine aw_istore (pcn := 36) dX7_watches_34 rfl (by decide) ?_
      dsimp only [List.set_cons_zero, List.set_cons_succ]
      refine aw_iload (pcn := 38) dX7_watches_36 rfl rfl ?_
      refine aw_if_ne (t := 112) (pcn := 41) dX7_watches_38 rfl (by decide) (fun q8 => ?_) (fun q8 => ?_)
      · refine aw_iconst (v := nI 1) (pcn := 113) dX7_watches_112 rfl (by decide) ?_
        refine aw_goto (t := 117) dX7_watches_113 (by decide) ?_
        refine aw_istore (pcn := 119) dX7_watches_117 rfl (by decide) ?_
        dsimp only [List.set_cons_zero, List.set_cons_succ]
        refine aw_iincN (pcn := 122) dX7_watches_119 rfl (by decide) rfl ?_
        dsimp only [List.set_cons_zero, List.set_cons_succ]
        refine aw_goto (t := 22) dX7_watches_122 (by decide) ?_
        refine AW.forget 6 ?_
        dsimp only [List.set_cons_zero, List.set_cons_succ]
        unfold urI at kk
        rw [hz1, ix_nI (by omega)] at kk
        first | (simp_all; done) | (simp_all; exact kk) | (rw [if_neg (by assumption)] at kk; exact kk) | (rw [if_pos (by assumption), if_pos (by assumption)] at kk; exact kk) | (rw [if_pos (by assumption), if_neg (by assumption), if_neg (by assumption)] at kk; exact kk) | (rw [if_pos (by assumption), if_neg (by assumption), if_pos (by assumption), if_neg (by simp_all)] at kk; exact kk) | (rw [if_pos (by assumption), if_neg (by assumption), if_pos (by assumption), if_pos (by assumption), if_neg (by assumption)] at kk; exact kk) | (rw [if_pos (by assumption), if_neg (by assumption), if_pos (by assumption), if_pos (by assumption), if_pos (by assumption)] at kk; exact kk)
      · refine aw_alo 0 (pcn := 42) rfl dX7_watches_41 rfl rfl (rf_some _) ?_
        refine aw_getf (pcn := 45) fl_X7_52 dX7_watches_42 rfl hW.mo rfl ?_
        refine aw_iload (pcn := 47) dX7_watches_45 rfl rfl ?_
        refine aw_iconst (v := nI 0) (pcn := 48) dX7_watches_47 rfl (by decide) ?_
        refine aw_iaddN (pcn := 49) dX7_watches_48 rfl ?_
        refine aw_ialdM (j := 19) (pcn := 50) hW dX7_watches_49 rfl (show _ < 2240 by omega) ?_
        refine aw_if_le (t := 116) (pcn := 53) dX7_watches_50 rfl (by decide) (fun q9 => ?_) (fun q9 => ?_)
        · refine aw_iconst (v := nI 0) (pcn := 117) dX7_watches_116 rfl (by decide) ?_
          refine aw_istore (pcn := 119) dX7_watches_117 rfl (by decide) ?_
          dsimp only [List.set_cons_zero, List.set_cons_succ]
          refine aw_iincN (pcn := 122) dX7_watches_119 rfl (by decide) rfl ?_
          dsimp only [List.set_cons_zero, List.set_cons_succ]
          refine aw_goto (t := 22) dX7_watches_122 (by decide) ?_
          refine AW.forget 6 ?_
          dsimp only [List.set_cons_zero, List.set_cons_succ]
          unfold urI at kk
          rw [hz1, ix_nI (by omega)] at kk
          first | (simp_all; done) | (simp_all; exact kk) | (rw [if_neg (by assumption)] at kk; exact kk) | (rw [if_pos (by assumption), if_pos (by assumption)] at kk; exact kk) | (rw [if_pos (by assumption), if_neg (by assumption), if_neg (by assumption)] at kk; exact kk) | (rw [if_pos (by assumption), if_neg (by assumption), if_pos (by assumption), if_neg (by simp_all)] at kk; exact kk) | (rw [if_pos (by assumption), if_neg (by assumption), if_pos (by assumption), if_pos (by assumption), if_neg (by assumption)] at kk; exact kk) | (rw [if_pos (by assumption), if_neg (by assumption), if_pos (by assumption), if_pos (by assumption), if_pos (by assumption)] at kk; exact kk)
        · refine aw_alo 0 (pcn := 54) rfl dX7_watches_53 rfl rfl (rf_some _) ?_
          refine aw_getf (pcn := 57) fl_X7_52 dX7_watches_54 rfl hW.mo rfl ?_
          refine aw_iload (pcn := 59) dX7_watches_57 rfl rfl ?_
          refine aw_iconst (v := nI 2) (pcn := 60) dX7_watches_59 rfl (by decide) ?_
          refine aw_iaddN (pcn := 61) dX7_watches_60 rfl ?_
          refine aw_ialdM (j := 19) (pcn := 62) hW dX7_watches_61 rfl (show _ < 2240 by omega) ?_
          refine aw_ilo 1 (pcn := 63) rfl dX7_watches_62 rfl rfl ?_
          refine aw_icmp_ne (t := 116) (pcn := 66) dX7_watches_63 rfl (by decide) (fun q10 => ?_) (fun q10 => ?_)
          · refine aw_iconst (v := nI 0) (pcn := 117) dX7_watches_116 rfl (by decide) ?_
            refine aw_istore (pcn := 119) dX7_watches_117 rfl (by decide) ?_
            dsimp only [List.set_cons_zero, List.set_cons_succ]
            refine aw_iincN (pcn := 122) dX7_watches_119 rfl (by decide) rfl ?_
            dsimp only [List.set_cons_zero, List.set_cons_succ]
            refine aw_goto (t := 22) dX7_watches_122 (by decide) ?_
            refine AW.forget 6 ?_
            dsimp only [List.set_cons_zero, List.set_cons_succ]
            unfold urI at kk
            rw [hz1, ix_nI (by omega)] at kk
            first | (simp_all; done) | (simp_all; exact kk) | (rw [if_neg (by assumption)] at kk; exact kk) | (rw [if_pos (by assumption), if_pos (by assumption)] at kk; exact kk) | (rw [if_pos (by assumption), if_neg (by assumption), if_neg (by assumption)] at kk; exact kk) | (rw [if_pos (by assumption), if_neg (by assumption), if_pos (by assumption), if_neg (by simp_all)] at kk; exact kk) | (rw [if_pos (by assumption), if_neg (by assumption), if_pos (by assumption), if_pos (by assumption), if_neg (by assumption)] at kk; exact kk) | (rw [if_pos (by assumption), if_neg (by assumption), if_pos (by assumption), if_pos (by assumption), if_pos (by assumption)] at kk; exact kk)
          · refine aw_alo 0 (pcn := 67) rfl dX7_watches_66 rfl rfl (rf_some _) ?_
            refine aw_getf (pcn := 70) fl_X7_13 dX7_watches_67 rfl hW.mo rfl ?_
            refine aw_alo 0 (pcn := 71) rfl dX7_watches_70 rfl rfl (rf_some _) ?_
            refine aw_getf (pcn := 74) fl_X7_52 dX7_watches_71 rfl hW.mo rfl ?_
            refine aw_iload (pcn := 76) dX7_watches_74 rfl rfl ?_
            refine aw_iconst (v := nI 3) (pcn := 77) dX7_watches_76 rfl (by decide) ?_
            refine aw_iaddN (pcn := 78) dX7_watches_77 rfl ?_
            refine aw_ialdM (j := 19) (pcn := 79) hW dX7_watches_78 rfl (show _ < 2240 by omega) ?_
            rw [hz1]
            refine aw_ialdM (j := 4) (pcn := 80) hW dX7_watches_79 rfl (show _ < 16 by omega) ?_
            refine aw_ilo 1 (pcn := 81) rfl dX7_watches_80 rfl rfl ?_
            refine aw_Si (pcn := 84) (r_has _ _) mf_X7_has mv_X7_has ml_X7_79 rfl (by decide) (by decide) (by decide) (by exact Nat.le_of_ble_eq_true rfl) rfl dX7_watches_81 rfl (fun r h2 hq => ?_)
            obtain ⟨rfl, hq⟩ := hq
            obtain rfl := hq.symm
            refine aw_if_eqB (t := 116) (pcn := 87) dX7_watches_84 rfl (by decide) (fun q11 => ?_) (fun q11 => ?_)
            · refine aw_iconst (v := nI 0) (pcn := 117) dX7_watches_116 rfl (by decide) ?_
              refine aw_istore (pcn := 119) dX7_watches_117 rfl (by decide) ?_
              dsimp only [List.set_cons_zero, List.set_cons_succ]
              refine aw_iincN (pcn := 122) dX7_watches_119 rfl (by decide) rfl ?_
              dsimp only [List.set_cons_zero, List.set_cons_succ]
              refine aw_goto (t := 22) dX7_watches_122 (by decide) ?_
              refine AW.forget 6 ?_
              dsimp only [List.set_cons_zero, List.set_cons_succ]
              unfold urI at kk
              rw [hz1, ix_nI (by omega)] at kk
              first | (simp_all; done) | (simp_all; exact kk) | (rw [if_neg (by assumption)] at kk; exact kk) | (rw [if_pos (by assumption), if_pos (by assumption)] at kk; exact kk) | (rw [if_pos (by assumption), if_neg (by assumption), if_neg (by assumption)] at kk; exact kk) | (rw [if_pos (by assumption), if_neg (by assumption), if_pos (by assumption), if_neg (by simp_all)] at kk; exact kk) | (rw [if_pos (by assumption), if_neg (by assumption), if_pos (by assumption), if_pos (by assumption), if_neg (by assumption)] at kk; exact kk) | (rw [if_pos (by assumption), if_neg (by assumption), if_pos (by assumption), if_pos (by assumption), if_pos (by assumption)] at kk; exact kk)
            · refine aw_alo 0 (pcn := 88) rfl dX7_watches_87 rfl rfl (rf_some _) ?_
              refine aw_getf (pcn := 91) fl_X7_52 dX7_watches_88 rfl hW.mo rfl ?_
              refine aw_iload (pcn := 93) dX7_watches_91 rfl rfl ?_
              refine aw_iconst (v := nI 4) (pcn := 94) dX7_watches_93 rfl (by decide) ?_
              refine aw_iaddN (pcn := 95) dX7_watches_94 rfl ?_
              refine aw_ialdM (j := 19) (pcn := 96) hW dX7_watches_95 rfl (show _ < 2240 by omega) ?_
              refine aw_alo 0 (pcn := 97) rfl dX7_watches_96 rfl rfl (rf_some _) ?_
              refine aw_getf (pcn := 100) fl_X7_103 dX7_watches_97 rfl hW.mo rfl ?_
              refine aw_alo 0 (pcn := 101) rfl dX7_watches_100 rfl rfl (rf_some _) ?_
              refine aw_getf (pcn := 104) fl_X7_19 dX7_watches_101 rfl hW.mo rfl ?_
              refine aw_ilo 2 (pcn := 105) rfl dX7_watches_104 rfl rfl ?_
              refine aw_ialdM (j := 7) (pcn := 106) hW dX7_watches_105 rfl (show _ < 8 by omega) ?_
              refine aw_iadd (pcn := 107) dX7_watches_106 rfl ?_
              refine aw_iconst (v := nI 1) (pcn := 108) dX7_watches_107 rfl (by decide) ?_
              refine aw_iadd (pcn := 109) dX7_watches_108 rfl ?_
              refine aw_icmp_ne (t := 116) (pcn := 112) dX7_watches_109 rfl (by decide) (fun q12 => ?_) (fun q12 => ?_)
              · refine aw_iconst (v := nI 0) (pcn := 117) dX7_watches_116 rfl (by decide) ?_
                refine aw_istore (pcn := 119) dX7_watches_117 rfl (by decide) ?_
                dsimp only [List.set_cons_zero, List.set_cons_succ]
                refine aw_iincN (pcn := 122) dX7_watches_119 rfl (by decide) rfl ?_
                dsimp only [List.set_cons_zero, List.set_cons_succ]
                refine aw_goto (t := 22) dX7_watches_122 (by decide) ?_
                refine AW.forget 6 ?_
                dsimp only [List.set_cons_zero, List.set_cons_succ]
                unfold urI at kk
                rw [hz1, ix_nI (by omega)] at kk
                first | (simp_all; done) | (simp_all; exact kk) | (rw [if_neg (by assumption)] at kk; exact kk) | (rw [if_pos (by assumption), if_pos (by assumption)] at kk; exact kk) | (rw [if_pos (by assumption), if_neg (by assumption), if_neg (by assumption)] at kk; exact kk) | (rw [if_pos (by assumption), if_neg (by assumption), if_pos (by assumption), if_neg (by simp_all)] at kk; exact kk) | (rw [if_pos (by assumption), if_neg (by assumption), if_pos (by assumption), if_pos (by assumption), if_neg (by assumption)] at kk; exact kk) | (rw [if_pos (by assumption), if_neg (by assumption), if_pos (by assumption), if_pos (by assumption), if_pos (by assumption)] at kk; exact kk)
              · refine aw_iconst (v := nI 1) (pcn := 113) dX7_watches_112 rfl (by decide) ?_
                refine aw_goto (t := 117) dX7_watches_113 (by decide) ?_
                refine aw_istore (pcn := 119) dX7_watches_117 rfl (by decide) ?_
                dsimp only [List.set_cons_zero, List.set_cons_succ]
                refine aw_iincN (pcn := 122) dX7_watches_119 rfl (by decide) rfl ?_
                dsimp only [List.set_cons_zero, List.set_cons_succ]
                refine aw_goto (t := 22) dX7_watches_122 (by decide) ?_
                refine AW.forget 6 ?_
                dsimp only [List.set_cons_zero, List.set_cons_succ]
                unfold urI at kk
                rw [hz1, ix_nI (by omega)] at kk
                first | (simp_all; done) | (simp_all; exact kk) | (rw [if_neg (by assumption)] at kk; exact kk) | (rw [if_pos (by assumption), if_pos (by assumption)] at kk; exact kk) | (rw [if_pos (by assumption), if_neg (by assumption), if_neg (by assumption)] at kk; exact kk) | (rw [if_pos (by assumption), if_neg (by assumption), if_pos (by assumption), if_neg (by simp_all)] at kk; exact kk) | (rw [if_pos (by assumption), if_neg (by assumption), if_pos (by assumption), if_pos (by assumption), if_neg (by assumption)] at kk; exact kk) | (rw [if_pos (by assumption), if_neg (by assumption), if_pos (by assumption), if_pos (by assumption), if_pos (by assumption)] at kk; exact kk)
    refine body 0 (by decide) _ ?_
    refine body 1 (by decide) _ ?_
    refine body 2 (by decide) _ ?_
    change AW X l cX7_watches RX7 "watches" (none) 7 4 none (qv fun h' => WD Γ ow h' T (watT Tr c s0 b P) nh) 0 0 22 [some (.ref (Γ 14 0)), some (.int (nI P)), some (.int (nI c)), some (.int (nI s0)), some (.int (ur3 Tr c s0 P)), some (.int (nI (3))), none] [] h
    refine aw_iload (pcn := 24) dX7_watches_22 rfl rfl ?_
    refine aw_iconst (v := nI 3) (pcn := 25) dX7_watches_24 rfl (by decide) ?_
    refine aw_icmp_ge (t := 125) (pcn := 28) dX7_watches_25 rfl (by decide) (fun q13 => ?_) (fun q13 => absurd (by decide) q13)
    refine aw_iload (pcn := 127) dX7_watches_125 rfl rfl ?_
    refine aw_if_eq (t := 135) (pcn := 130) dX7_watches_127 rfl (by decide) (fun q14 => ?_) (fun q14 => ?_)
    · refine aw_goto (t := 246) dX7_watches_135 (by decide) ?_
      exact aw_ret dX7_watches_246 rfl ⟨rfl, (by unfold watT; first | (rw [if_pos (by assumption), if_pos (by assumption)]; exact hW) | (rw [if_pos (by assumption), if_neg (by assumption)]; exact hW) | (rw [if_neg (by assumption), if_pos (by assumption)]; exact hW) | (rw [if_neg (by assumption), if_neg (by assumption)]; unfold plyT; first | (rw [if_pos ⟨Int32.not_le.mp (by assumption), by assumption⟩, if_pos (by assumption)]; exact hW) | (rw [if_pos ⟨Int32.not_le.mp (by assumption), by assumption⟩, if_neg (by assumption)]; exact hW) | (rw [if_neg (by rintro ⟨qa, qb⟩; first | contradiction | exact absurd qa (Int32.not_lt.mpr (by assumption)))]; exact hW)))⟩
    · refine aw_alo 0 (pcn := 131) rfl dX7_watches_130 rfl rfl (rf_some _) ?_
      refine aw_ilo 3 (pcn := 132) rfl dX7_watches_131 rfl rfl ?_
      refine aw_Vv (pcn := 135) (r_shows hW (S := s0) (c := c) (b := b) hs0 hc8 hc0 (fun q => ⟨hb q, hb64⟩)) mf_X7_shows mv_X7_shows hW.mo rfl ml_X7_120 rfl (by decide) (by decide) (by decide) (by exact Nat.le_of_ble_eq_true rfl) rfl dX7_watches_132 rfl (fun h hW => ?_)
      refine aw_goto (t := 246) dX7_watches_135 (by decide) ?_
      exact aw_ret dX7_watches_246 rfl ⟨rfl, (by unfold watT; first | (rw [if_pos (by assumption), if_pos (by assumption)]; exact hW) | (rw [if_pos (by assumption), if_neg (by assumption)]; exact hW) | (rw [if_neg (by assumption), if_pos (by assumption)]; exact hW) | (rw [if_neg (by assumption), if_neg (by assumption)]; unfold plyT; first | (rw [if_pos ⟨Int32.not_le.mp (by assumption), by assumption⟩, if_pos (by assumption)]; exact hW) | (rw [if_pos ⟨Int32.not_le.mp (by assumption), by assumption⟩, if_neg (by assumption)]; exact hW) | (rw [if_neg (by rintro ⟨qa, qb⟩; first | contradiction | exact absurd qa (Int32.not_lt.mpr (by assumption)))]; exact hW)))⟩

theorem ix_lt {x : Int32} {b : Nat} (h0 : 0 < b) (h : x = -1 ∨ okI x b) (hb : b ≤ 2 ^ 31) : ix x < b := by
  rcases h with rfl | h
  · exact h0
  · exact (h.ix hb).2
theorem Iv.npos {i : Nat} {T : TB} {C n Z hN : Nat} (H : Iv i T C n Z hN) {c : Nat} (hc : c < C) : 0 < n := by
  obtain ⟨_, _, hp, _, hb, _, _, hw, _⟩ := H.ch hc
  by_cases e : T 9 c = nI 1
  · obtain ⟨_, s, h1, _⟩ := hw (by rw [e]; decide)
    omega
  · obtain ⟨b, h1, _⟩ := hb e
    omega
theorem Iv.byn {i : Nat} {T : TB} {C n Z hN : Nat} (H : Iv i T C n Z hN) {c : Nat} (hc : c < C) : ix (T 10 c) < n := by
  have h64 := H.n64
  have hp := H.npos hc
  obtain ⟨_, _, _, h1, hb, _⟩ := H.ch hc
  refine ix_lt hp ?_ (by omega)
  by_cases e : T 9 c = nI 1
  · exact Or.inl (h1 e)
  · obtain ⟨b, g1, g2, _⟩ := hb e
    exact Or.inr ⟨b, g1, g2⟩
theorem Iv.by_ {i : Nat} {T : TB} {C n Z hN : Nat} (H : Iv i T C n Z hN) {c : Nat} (hc : c < C) (hp : ¬ T 9 c = nI 1) : T 10 c = nI (ix (T 10 c)) := by
  have h64 := H.n64
  obtain ⟨_, _, _, _, hb, _⟩ := H.ch hc
  obtain ⟨b, g1, g2, _⟩ := hb hp
  rw [g2, ix_nI (by omega)]
theorem Iv.du10 {i : Nat} {T : TB} {C n Z hN : Nat} (H : Iv i T C n Z hN) {c : Nat} (hc : c < C) : du1 T c 10 c = T 10 c := by
  unfold du1
  split
  · rename_i q
    rw [endT_10]
    exact (H.by_ hc (by rw [q.1]; decide)).symm
  · rfl
theorem Iv.lkP {i : Nat} {T : TB} {C n Z hN : Nat} (H : Iv i T C n Z hN) {s k : Nat} (hs : s < n) (hk : k < 3) : ∃ P, P < 6 ∧ T 19 (35 * s + 16 + 5 * k + 1) = nI P := by
  obtain ⟨_, _, hl, _⟩ := H.st hs
  exact (hl k hk).2.1
theorem Iv.lkZ {i : Nat} {T : TB} {C n Z hN : Nat} (H : Iv i T C n Z hN) {s k : Nat} (hs : s < n) (hk : k < 3) : okI (T 19 (35 * s + 16 + 5 * k + 3)) 16 := by
  obtain ⟨_, _, hl, _⟩ := H.st hs
  exact (hl k hk).2.2.2.1
theorem r_duesI {X : XG} {l : Launch} {Γ : NM} {ow : Nat → Nat × Nat} {h : Hp} {T Tr : TB} {nh : Nat} (hW : WD Γ ow h T Tr nh) {i C n Z hN c : Nat} (H : Iv i Tr C n Z hN) (hc : c < C) : AM X l yX7_dues cX7_dues 3 none 3 0 0 [.ref (Γ 14 0), .int (nI c)] h (qv fun h' => WD Γ ow h' T (duesI Tr c) nh) := by
  have h64 := H.n64
  have h8 := H.C8
  have hbn := H.byn hc
  have hd := H.du10 hc
  have g19 : ∀ x, du1 Tr c 19 x = Tr 19 x := fun x => by
    unfold du1
    split
    · exact endT_j _ _ _ _ (by decide)
    · rfl
  unfold duesI
  rw [hd]
  refine r_dues hW (b1 := ix (Tr 10 c)) (Po := ix (dl3 (du1 Tr c) c (ix (Tr 10 c)) 16 c)) (by omega) (fun q => H.by_ hc (by rw [q]; decide)) (by omega) (fun k hk => H.lkP hbn hk) (by omega) (fun k hk => H.lkP hbn hk) ?_ g19 (fun q => ?_)
  · by_cases e : Tr 9 c = nI 1
    · left
      rw [du1, if_neg (by rw [e]; rintro ⟨q, _⟩; exact absurd q (by decide))]
      rw [nI_0]
      exact ((H.he hc).2.1 (by rw [e]; decide)).1
    · right
      rw [hd]
      exact H.by_ hc e
  · unfold dl3 at q ⊢
    rw [dlT_j _ _ _ _ _ (by decide) (by decide) (by decide), dlT_j _ _ _ _ _ (by decide) (by decide) (by decide), dlT_j _ _ _ _ _ (by decide) (by decide) (by decide)] at q ⊢
    have hh : okI (du1 Tr c 16 c) 6 := by
      unfold du1 at q ⊢
      split at q
      · rename_i e
        rw [if_pos e]
        rw [endT_13] at q
        rw [endT_16]
        exact ((H.st hbn).2.2.2.1.2 (fun e0 => by rw [e0] at q; exact absurd q (by decide))).2.1
      · rename_i e
        rw [if_neg e]
        exact ((H.he hc).2.2.2.1.2 (fun e0 => by rw [e0] at q; exact absurd q (by decide))).2.1
    exact hh.ix (by decide)
theorem r_watI {X : XG} {l : Launch} {Γ : NM} {ow : Nat → Nat × Nat} {h : Hp} {T Tr : TB} {nh : Nat} (hW : WD Γ ow h T Tr nh) {i C n Z hN c P : Nat} (H : Iv i Tr C n Z hN) (hc : c < C) (hP : P < 6) : AM X l yX7_watches cX7_watches 7 none 4 0 0 [.ref (Γ 14 0), .int (nI P), .int (nI c)] h (qv fun h' => WD Γ ow h' T (watI Tr c n P) nh) := by
  have h64 := H.n64
  have h8 := H.C8
  have hbn := H.byn hc
  have hnp := H.npos hc
  obtain ⟨_, _, hph, _, _, _, _, hw, _⟩ := H.ch hc
  unfold watI
  have hs : ¬ Tr 9 c = nI 3 → nwT Tr c n = nI (ix (nwT Tr c n)) ∧ Tr 19 (35 * ix (nwT Tr c n) + 0) = nI c ∧ ix (nwT Tr c n) < n := fun q => by
    obtain ⟨_, s, h1, h2⟩ := hw q
    have e : ix (nwT Tr c n) = s := by rw [h2, ix_nI (by omega)]
    refine ⟨by rw [e, h2], ?_, by omega⟩
    rw [e]
    exact (nwT_ch (by omega) (by omega) h2).2.1
  by_cases e3 : Tr 9 c = nI 3
  · have : watT Tr c (ix (nwT Tr c n)) (ix (Tr 10 c)) P = watT Tr c 0 (ix (Tr 10 c)) P := by
      unfold watT
      rw [if_neg (by rw [e3]; decide), if_neg (by rw [e3]; decide), if_neg (by rw [e3]; decide), if_neg (by rw [e3]; decide)]
    rw [this]
    exact r_watches hW (by omega) hP (by omega) H.n18 (fun q => absurd e3 q) (by omega) hph (fun q => H.by_ hc q) (by omega) (fun k hk => H.lkZ hnp hk) (fun k hk => H.lkZ hbn hk)
  · obtain ⟨g1, g2, g3⟩ := hs e3
    exact r_watches hW (by omega) hP (by omega) H.n18 (fun _ => ⟨g1, g2⟩) (by omega) hph (fun q => H.by_ hc q) (by omega) (fun k hk => H.lkZ g3 hk) (fun k hk => H.lkZ hbn hk)