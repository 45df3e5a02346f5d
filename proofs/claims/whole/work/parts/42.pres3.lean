/-! what holds stays: changes of a state that nobody signed -/
theorem whole_sh (T : TB) (s : Nat) {P : Nat} (hP : P < 6) (v : Int32) : wholeT (up T 19 (35 * s + 4 + P) v) s = wholeT T s - T 19 (35 * s + 4 + P) + v := by
  rcases (show P = 0 ∨ P = 1 ∨ P = 2 ∨ P = 3 ∨ P = 4 ∨ P = 5 by omega) with rfl | rfl | rfl | rfl | rfl | rfl
  · unfold wholeT
    rw [up_i T 19 v (show 35 * s + 31 ≠ 35 * s + 4 + 0 by omega), up_s, up_i T 19 v (show 35 * s + 4 + 1 ≠ 35 * s + 4 + 0 by omega), up_i T 19 v (show 35 * s + 4 + 2 ≠ 35 * s + 4 + 0 by omega), up_i T 19 v (show 35 * s + 4 + 3 ≠ 35 * s + 4 + 0 by omega), up_i T 19 v (show 35 * s + 4 + 4 ≠ 35 * s + 4 + 0 by omega), up_i T 19 v (show 35 * s + 4 + 5 ≠ 35 * s + 4 + 0 by omega), up_i T 19 v (show 35 * s + 16 + 5 * 0 + 0 ≠ 35 * s + 4 + 0 by omega), up_i T 19 v (show 35 * s + 16 + 5 * 1 + 0 ≠ 35 * s + 4 + 0 by omega), up_i T 19 v (show 35 * s + 16 + 5 * 2 + 0 ≠ 35 * s + 4 + 0 by omega)]
    grind
  · unfold wholeT
    rw [up_i T 19 v (show 35 * s + 31 ≠ 35 * s + 4 + 1 by omega), up_i T 19 v (show 35 * s + 4 + 0 ≠ 35 * s + 4 + 1 by omega), up_s, up_i T 19 v (show 35 * s + 4 + 2 ≠ 35 * s + 4 + 1 by omega), up_i T 19 v (show 35 * s + 4 + 3 ≠ 35 * s + 4 + 1 by omega), up_i T 19 v (show 35 * s + 4 + 4 ≠ 35 * s + 4 + 1 by omega), up_i T 19 v (show 35 * s + 4 + 5 ≠ 35 * s + 4 + 1 by omega), up_i T 19 v (show 35 * s + 16 + 5 * 0 + 0 ≠ 35 * s + 4 + 1 by omega), up_i T 19 v (show 35 * s + 16 + 5 * 1 + 0 ≠ 35 * s + 4 + 1 by omega), up_i T 19 v (show 35 * s + 16 + 5 * 2 + 0 ≠ 35 * s + 4 + 1 by omega)]
    grind
  · unfold wholeT
    rw [up_i T 19 v (show 35 * s + 31 ≠ 35 * s + 4 + 2 by omega), up_i T 19 v (show 35 * s + 4 + 0 ≠ 35 * s + 4 + 2 by omega), up_i T 19 v (show 35 * s + 4 + 1 ≠ 35 * s + 4 + 2 by omega), up_s, up_i T 19 v (show 35 * s + 4 + 3 ≠ 35 * s + 4 + 2 by omega), up_i T 19 v (show 35 * s + 4 + 4 ≠ 35 * s + 4 + 2 by omega), up_i T 19 v (show 35 * s + 4 + 5 ≠ 35 * s + 4 + 2 by omega), up_i T 19 v (show 35 * s + 16 + 5 * 0 + 0 ≠ 35 * s + 4 + 2 by omega), up_i T 19 v (show 35 * s + 16 + 5 * 1 + 0 ≠ 35 * s + 4 + 2 by omega), up_i T 19 v (show 35 * s + 16 + 5 * 2 + 0 ≠ 35 * s + 4 + 2 by omega)]
    grind
  · unfold wholeT
    rw [up_i T 19 v (show 35 * s + 31 ≠ 35 * s + 4 + 3 by omega), up_i T 19 v (show 35 * s + 4 + 0 ≠ 35 * s + 4 + 3 by omega), up_i T 19 v (show 35 * s + 4 + 1 ≠ 35 * s + 4 + 3 by omega), up_i T 19 v (show 35 * s + 4 + 2 ≠ 35 * s + 4 + 3 by omega), up_s, up_i T 19 v (show 35 * s + 4 + 4 ≠ 35 * s + 4 + 3 by omega), up_i T 19 v (show 35 * s + 4 + 5 ≠ 35 * s + 4 + 3 by omega), up_i T 19 v (show 35 * s + 16 + 5 * 0 + 0 ≠ 35 * s + 4 + 3 by omega), up_i T 19 v (show 35 * s + 16 + 5 * 1 + 0 ≠ 35 * s + 4 + 3 by omega), up_i T 19 v (show 35 * s + 16 + 5 * 2 + 0 ≠ 35 * s + 4 + 3 by omega)]
    grind
  · unfold wholeT
    rw [up_i T 19 v (show 35 * s + 31 ≠ 35 * s + 4 + 4 by omega), up_i T 19 v (show 35 * s + 4 + 0 ≠ 35 * s + 4 + 4 by omega), up_i T 19 v (show 35 * s + 4 + 1 ≠ 35 * s + 4 + 4 by omega), up_i T 19 v (show 35 * s + 4 + 2 ≠ 35 * s + 4 + 4 by omega), up_i T 19 v (show 35 * s + 4 + 3 ≠ 35 * s + 4 + 4 by omega), up_s, up_i T 19 v (show 35 * s + 4 + 5 ≠ 35 * s + 4 + 4 by omega), up_i T 19 v (show 35 * s + 16 + 5 * 0 + 0 ≠ 35 * s + 4 + 4 by omega), up_i T 19 v (show 35 * s + 16 + 5 * 1 + 0 ≠ 35 * s + 4 + 4 by omega), up_i T 19 v (show 35 * s + 16 + 5 * 2 + 0 ≠ 35 * s + 4 + 4 by omega)]
    grind
  · unfold wholeT
    rw [up_i T 19 v (show 35 * s + 31 ≠ 35 * s + 4 + 5 by omega), up_i T 19 v (show 35 * s + 4 + 0 ≠ 35 * s + 4 + 5 by omega), up_i T 19 v (show 35 * s + 4 + 1 ≠ 35 * s + 4 + 5 by omega), up_i T 19 v (show 35 * s + 4 + 2 ≠ 35 * s + 4 + 5 by omega), up_i T 19 v (show 35 * s + 4 + 3 ≠ 35 * s + 4 + 5 by omega), up_i T 19 v (show 35 * s + 4 + 4 ≠ 35 * s + 4 + 5 by omega), up_s, up_i T 19 v (show 35 * s + 16 + 5 * 0 + 0 ≠ 35 * s + 4 + 5 by omega), up_i T 19 v (show 35 * s + 16 + 5 * 1 + 0 ≠ 35 * s + 4 + 5 by omega), up_i T 19 v (show 35 * s + 16 + 5 * 2 + 0 ≠ 35 * s + 4 + 5 by omega)]
    grind
theorem whole_mu (T : TB) (s : Nat) {K : Nat} (hK : K < 3) (v : Int32) : wholeT (up T 19 (35 * s + 16 + 5 * K + 0) v) s = wholeT T s - T 19 (35 * s + 16 + 5 * K + 0) + v := by
  rcases (show K = 0 ∨ K = 1 ∨ K = 2 by omega) with rfl | rfl | rfl
  · unfold wholeT
    rw [up_i T 19 v (show 35 * s + 31 ≠ 35 * s + 16 + 5 * 0 + 0 by omega), up_i T 19 v (show 35 * s + 4 + 0 ≠ 35 * s + 16 + 5 * 0 + 0 by omega), up_i T 19 v (show 35 * s + 4 + 1 ≠ 35 * s + 16 + 5 * 0 + 0 by omega), up_i T 19 v (show 35 * s + 4 + 2 ≠ 35 * s + 16 + 5 * 0 + 0 by omega), up_i T 19 v (show 35 * s + 4 + 3 ≠ 35 * s + 16 + 5 * 0 + 0 by omega), up_i T 19 v (show 35 * s + 4 + 4 ≠ 35 * s + 16 + 5 * 0 + 0 by omega), up_i T 19 v (show 35 * s + 4 + 5 ≠ 35 * s + 16 + 5 * 0 + 0 by omega), up_s, up_i T 19 v (show 35 * s + 16 + 5 * 1 + 0 ≠ 35 * s + 16 + 5 * 0 + 0 by omega), up_i T 19 v (show 35 * s + 16 + 5 * 2 + 0 ≠ 35 * s + 16 + 5 * 0 + 0 by omega)]
    grind
  · unfold wholeT
    rw [up_i T 19 v (show 35 * s + 31 ≠ 35 * s + 16 + 5 * 1 + 0 by omega), up_i T 19 v (show 35 * s + 4 + 0 ≠ 35 * s + 16 + 5 * 1 + 0 by omega), up_i T 19 v (show 35 * s + 4 + 1 ≠ 35 * s + 16 + 5 * 1 + 0 by omega), up_i T 19 v (show 35 * s + 4 + 2 ≠ 35 * s + 16 + 5 * 1 + 0 by omega), up_i T 19 v (show 35 * s + 4 + 3 ≠ 35 * s + 16 + 5 * 1 + 0 by omega), up_i T 19 v (show 35 * s + 4 + 4 ≠ 35 * s + 16 + 5 * 1 + 0 by omega), up_i T 19 v (show 35 * s + 4 + 5 ≠ 35 * s + 16 + 5 * 1 + 0 by omega), up_i T 19 v (show 35 * s + 16 + 5 * 0 + 0 ≠ 35 * s + 16 + 5 * 1 + 0 by omega), up_s, up_i T 19 v (show 35 * s + 16 + 5 * 2 + 0 ≠ 35 * s + 16 + 5 * 1 + 0 by omega)]
    grind
  · unfold wholeT
    rw [up_i T 19 v (show 35 * s + 31 ≠ 35 * s + 16 + 5 * 2 + 0 by omega), up_i T 19 v (show 35 * s + 4 + 0 ≠ 35 * s + 16 + 5 * 2 + 0 by omega), up_i T 19 v (show 35 * s + 4 + 1 ≠ 35 * s + 16 + 5 * 2 + 0 by omega), up_i T 19 v (show 35 * s + 4 + 2 ≠ 35 * s + 16 + 5 * 2 + 0 by omega), up_i T 19 v (show 35 * s + 4 + 3 ≠ 35 * s + 16 + 5 * 2 + 0 by omega), up_i T 19 v (show 35 * s + 4 + 4 ≠ 35 * s + 16 + 5 * 2 + 0 by omega), up_i T 19 v (show 35 * s + 4 + 5 ≠ 35 * s + 16 + 5 * 2 + 0 by omega), up_i T 19 v (show 35 * s + 16 + 5 * 0 + 0 ≠ 35 * s + 16 + 5 * 2 + 0 by omega), up_i T 19 v (show 35 * s + 16 + 5 * 1 + 0 ≠ 35 * s + 16 + 5 * 2 + 0 by omega), up_s]
    grind
theorem whole_st (T : TB) (s : Nat) (v : Int32) : wholeT (up T 19 (35 * s + 31) v) s = wholeT T s - T 19 (35 * s + 31) + v := by
  unfold wholeT
  rw [up_s, up_i T 19 v (show 35 * s + 4 + 0 ≠ 35 * s + 31 by omega), up_i T 19 v (show 35 * s + 4 + 1 ≠ 35 * s + 31 by omega), up_i T 19 v (show 35 * s + 4 + 2 ≠ 35 * s + 31 by omega), up_i T 19 v (show 35 * s + 4 + 3 ≠ 35 * s + 31 by omega), up_i T 19 v (show 35 * s + 4 + 4 ≠ 35 * s + 31 by omega), up_i T 19 v (show 35 * s + 4 + 5 ≠ 35 * s + 31 by omega), up_i T 19 v (show 35 * s + 16 + 5 * 0 + 0 ≠ 35 * s + 31 by omega), up_i T 19 v (show 35 * s + 16 + 5 * 1 + 0 ≠ 35 * s + 31 by omega), up_i T 19 v (show 35 * s + 16 + 5 * 2 + 0 ≠ 35 * s + 31 by omega)]
  grind
theorem whole_ot (T : TB) (s x : Nat) (v : Int32) (h1 : ¬ (35 * s + 4 ≤ x ∧ x < 35 * s + 10)) (h2 : x ≠ 35 * s + 16 ∧ x ≠ 35 * s + 21 ∧ x ≠ 35 * s + 26 ∧ x ≠ 35 * s + 31) : wholeT (up T 19 x v) s = wholeT T s := by
  unfold wholeT
  rw [up_i T 19 v (show 35 * s + 31 ≠ x by omega), up_i T 19 v (show 35 * s + 4 + 0 ≠ x by omega), up_i T 19 v (show 35 * s + 4 + 1 ≠ x by omega), up_i T 19 v (show 35 * s + 4 + 2 ≠ x by omega), up_i T 19 v (show 35 * s + 4 + 3 ≠ x by omega), up_i T 19 v (show 35 * s + 4 + 4 ≠ x by omega), up_i T 19 v (show 35 * s + 4 + 5 ≠ x by omega), up_i T 19 v (show 35 * s + 16 + 5 * 0 + 0 ≠ x by omega), up_i T 19 v (show 35 * s + 16 + 5 * 1 + 0 ≠ x by omega), up_i T 19 v (show 35 * s + 16 + 5 * 2 + 0 ≠ x by omega)]
/-- a state's rows but the first three change, and nothing else; its whole is the same -/
theorem Iv.stw {i : Nat} {T T' : TB} {C n Z hN S c : Nat} (H : Iv i T C n Z hN) (hS : S < n) (hc0 : T 19 (35 * S + 0) = nI c) (hc8 : c < 8) (h9 : ¬ T 9 c = nI 3)
    (ho : ∀ j x, ¬ (j = 19 ∧ 35 * S + 3 ≤ x ∧ x < 35 * S + 35) → T' j x = T j x) (hw : wholeT T' S = wholeT T S) (hS' : IvS T' Z S) : Iv i T' C n Z hN := by
  have h64 := H.n64
  have hC8 := H.C8
  have hj : ∀ j x, j ≠ 19 → T' j x = T j x := fun j x h => ho j x (fun q => h q.1)
  have hr : ∀ s x, s ≠ S → 35 * s ≤ x → x < 35 * s + 35 → T' 19 x = T 19 x := fun s x h h1 h2 => ho 19 x (by omega)
  have h0 : ∀ s, T' 19 (35 * s + 0) = T 19 (35 * s + 0) := fun s => ho 19 _ (by omega)
  have hwh : ∀ s, wholeT T' s = wholeT T s := fun s => by
    by_cases e : s = S
    · subst e; exact hw
    · unfold wholeT
      rw [hr s _ e (by omega) (by omega), hr s _ e (by omega) (by omega), hr s _ e (by omega) (by omega), hr s _ e (by omega) (by omega), hr s _ e (by omega) (by omega), hr s _ e (by omega) (by omega), hr s _ e (by omega) (by omega), hr s _ e (by omega) (by omega), hr s _ e (by omega) (by omega), hr s _ e (by omega) (by omega)]
  have hcn : ∀ d s, cnt T' d s = cnt T d s := fun d s => by
    unfold cnt
    rw [hwh s, hj 9 d (by decide), hj 6 d (by decide), hj 8 d (by decide), ho 19 (35 * s + 2) (by omega)]
  refine ⟨?_, ?_, fun s hsn => ⟨?_, ?_⟩, fun d hd => ⟨(H.ch hd).congr (fun j _ => hj j d (by omega)) (rkT_congr (fun s _ => h0 s)) (fun q => nwT_congr (fun s _ => h0 s) (fun s _ _ => hcn d s)) (fun s _ => h0 s), ?_⟩⟩
  · obtain ⟨g1, g2, g3, g4, g5, g6, g7, g8, g9, g10, g11⟩ := H.1
    refine ⟨by rw [hj 5 0 (by omega)]; exact g1, g2, by rw [hj 18 0 (by omega)]; exact g3, g4, by rw [hj 3 0 (by omega)]; exact g5, g6, by rw [hj 20 0 (by omega)]; exact g7, g8, by rw [hj 1 0 (by omega)]; exact g9, fun z hz => by rw [hj 4 z (by omega)]; exact g10 z hz, fun d hd => ?_⟩
    rw [hj 12 d (by omega), hj 13 d (by omega)]
    exact g11 d hd
  · obtain ⟨g1, g2⟩ := H.2.1
    refine ⟨fun q hq => ?_, fun q r h1 h2 => ?_⟩
    · rw [hj 21 q (by omega), hj 22 q (by omega), hj 23 q (by omega)]
      exact g1 q hq
    · rw [hj 21 q (by omega), hj 21 r (by omega)]
      exact g2 q r h1 h2
  · by_cases e : s = S
    · subst e; exact hS'
    · exact (H.st hsn).congr (fun x h1 h2 => hr s x e h1 h2)
  · obtain ⟨d, h1, h2, h3, h5⟩ := H.sr hsn
    refine ⟨d, h1, by rw [h0]; exact h2, by rw [ho 19 (35 * s + 1) (by omega), rkT_congr (fun s _ => h0 s)]; exact h3, fun q => ?_⟩
    rw [hj 9 d (by decide)] at q
    rw [hwh s, hj 8 d (by decide)]
    exact h5 q
  · have hE := H.he hd
    by_cases e3 : T 9 d = nI 3
    · refine hE.congr (fun j _ => hj j d (by omega)) (fun k hk => ?_)
      have hb : ix (T 10 d) ≠ S := fun e => by
        obtain ⟨b, h1, h2, h3⟩ := (H.ch hd).2.2.2.2.1 (by rw [e3]; decide)
        rw [h2, ix_nI (by omega)] at e
        subst e
        rw [hc0, nI_eq (by omega) (by omega)] at h3
        rw [h3] at h9
        exact h9 e3
      exact hr _ _ hb (by omega) (by omega)
    · unfold IvE at hE ⊢
      rw [hj 9 d (by decide), hj 10 d (by decide), hj 12 d (by decide), hj 13 d (by decide), hj 14 d (by decide), hj 15 d (by decide), hj 16 d (by decide), hj 17 d (by decide), hj 27 d (by decide)]
      refine ⟨hE.1, hE.2.1, fun k hk q => ?_, hE.2.2.2.1, hE.2.2.2.2.1, hE.2.2.2.2.2⟩
      rw [(hE.2.1 e3).1, hasB_z hk] at q
      cases q
theorem fx_of {T : TB} {c S : Nat} (h : fxT T c S = false) : ¬ T 9 c = nI 3 ∧ T 19 (35 * S + 2) = 0 := by
  unfold fxT at h
  rw [Bool.or_eq_false_iff] at h
  exact ⟨of_decide_eq_false h.1, by simpa using h.2⟩
/-- the shares aside -/
theorem IvS.shr {T T' : TB} {Z s : Nat} (h : ∀ x, 35 * s ≤ x → x < 35 * s + 35 → ¬ (35 * s + 4 ≤ x ∧ x < 35 * s + 10) → T' 19 x = T 19 x) (H : IvS T Z s) : IvS T' Z s := by
  unfold IvS at H ⊢
  have hl : ∀ k, k < 3 → ∀ j, j < 5 → lkT T' s k j = lkT T s k j := fun k hk j hj => h _ (by omega) (by omega) (by omega)
  refine ⟨?_, ?_, fun k hk => ?_, ?_, ?_, fun p hp => ?_⟩
  · rw [h _ (by omega) (by omega) (by omega)]; exact H.1
  · rw [h _ (by omega) (by omega) (by omega)]; exact H.2.1
  · unfold IvL
    rw [hl k hk 0 (by decide), hl k hk 1 (by decide), hl k hk 2 (by decide), hl k hk 3 (by decide)]
    exact H.2.2.1 k hk
  · rw [h _ (by omega) (by omega) (by omega), h _ (by omega) (by omega) (by omega), h _ (by omega) (by omega) (by omega), h _ (by omega) (by omega) (by omega)]; exact H.2.2.2.1
  · rw [h _ (by omega) (by omega) (by omega), h _ (by omega) (by omega) (by omega), h _ (by omega) (by omega) (by omega), h _ (by omega) (by omega) (by omega)]; exact H.2.2.2.2.1
  · rw [h _ (by omega) (by omega) (by omega)]; exact H.2.2.2.2.2 p hp
theorem up_x {T : TB} {x y : Nat} {v : Int32} {j : Nat} (h : ¬ (j = 19 ∧ x = y)) : up T 19 y v j x = T j x := if_neg h
theorem Iv.chg {i : Nat} {T : TB} {C n Z hN S c F P : Nat} (H : Iv i T C n Z hN) (hS : S < n) (hc0 : T 19 (35 * S + 0) = nI c) (hc8 : c < 8) (hfx : fxT T c S = false) (hF : F < 6) (hP : P < 6) (hne : F ≠ P) (v : Int32) : Iv i (chgT T S F P v) C n Z hN := by
  have ho : ∀ j x, ¬ (j = 19 ∧ 35 * S + 4 ≤ x ∧ x < 35 * S + 10) → chgT T S F P v j x = T j x := fun j x h => by
    unfold chgT
    rw [up_x (by omega), up_x (by omega)]
  refine H.stw hS hc0 hc8 (fx_of hfx).1 (fun j x h => ho j x (by omega)) ?_ ((H.st hS).shr (fun x _ _ h => ho 19 x (by omega)))
  unfold chgT
  rw [whole_sh _ _ hP, whole_sh _ _ hF]
  grind
theorem IvS.out {T : TB} {Z s P : Nat} {v : Int32} (H : IvS T Z s) (hP : P < 6) (h0 : 0 ≤ v) (h1 : v ≤ nI 60000) : IvS (up T 19 (35 * s + 10 + P) v) Z s := by
  have h : ∀ x, ¬ x = 35 * s + 10 + P → up T 19 (35 * s + 10 + P) v 19 x = T 19 x := fun x q => up_i _ _ _ q
  unfold IvS at H ⊢
  have hl : ∀ k, k < 3 → ∀ j, j < 5 → lkT (up T 19 (35 * s + 10 + P) v) s k j = lkT T s k j := fun k hk j hj => h _ (by omega)
  refine ⟨?_, ?_, fun k hk => ?_, ?_, ?_, fun p hp => ?_⟩
  · rw [h _ (by omega)]; exact H.1
  · rw [h _ (by omega)]; exact H.2.1
  · unfold IvL
    rw [hl k hk 0 (by decide), hl k hk 1 (by decide), hl k hk 2 (by decide), hl k hk 3 (by decide)]
    exact H.2.2.1 k hk
  · rw [h _ (by omega), h _ (by omega), h _ (by omega), h _ (by omega)]; exact H.2.2.2.1
  · rw [h _ (by omega), h _ (by omega), h _ (by omega), h _ (by omega)]; exact H.2.2.2.2.1
  · by_cases e : p = P
    · subst e; rw [up_s]; exact ⟨h0, h1⟩
    · rw [h _ (by omega)]; exact H.2.2.2.2.2 p hp
theorem Iv.outs {i : Nat} {T : TB} {C n Z hN S c P : Nat} (H : Iv i T C n Z hN) (hS : S < n) (hc0 : T 19 (35 * S + 0) = nI c) (hc8 : c < 8) (h9 : ¬ T 9 c = nI 3) (hP : P < 6) {v : Int32} (h0 : 0 ≤ v) (h1 : v ≤ nI 60000) : Iv i (up T 19 (35 * S + 10 + P) v) C n Z hN :=
  H.stw hS hc0 hc8 h9 (fun j x h => up_x (by omega)) (whole_ot _ _ _ _ (by omega) (by omega)) ((H.st hS).out hP h0 h1)
/-- a lock's place -/
theorem IvS.lok {T : TB} {Z s K P : Nat} {sv mu fr to se ex : Int32} (H : IvS T Z s) (hP : P < 6) (hK : K < 3) (hl : 0 ≤ mu ∧ okI fr 6 ∧ okI to 6 ∧ okI se 16 ∧ (mu ≠ 0 → okI se Z)) : IvS (lsU (up T 19 (35 * s + 4 + P) sv) s K mu fr to se ex) Z s := by
  have h : ∀ x, ¬ (35 * s + 4 ≤ x ∧ x < 35 * s + 10) → ¬ (35 * s + 16 + 5 * K ≤ x ∧ x < 35 * s + 16 + 5 * K + 5) → lsU (up T 19 (35 * s + 4 + P) sv) s K mu fr to se ex 19 x = T 19 x := fun x q1 q2 => by
    rw [lsU_o q2, up_i _ _ _ (by omega)]
  unfold IvS at H ⊢
  refine ⟨?_, ?_, fun k hk => ?_, ?_, ?_, fun p hp => ?_⟩
  · rw [h _ (by omega) (by omega)]; exact H.1
  · rw [h _ (by omega) (by omega)]; exact H.2.1
  · by_cases e : k = K
    · subst e
      unfold IvL
      rw [show lkT (lsU (up T 19 (35 * s + 4 + P) sv) s k mu fr to se ex) s k 0 = mu by simp [lkT, lsU, up], show lkT (lsU (up T 19 (35 * s + 4 + P) sv) s k mu fr to se ex) s k 1 = fr by simp [lkT, lsU, up], show lkT (lsU (up T 19 (35 * s + 4 + P) sv) s k mu fr to se ex) s k 2 = to by simp [lkT, lsU, up], show lkT (lsU (up T 19 (35 * s + 4 + P) sv) s k mu fr to se ex) s k 3 = se by simp [lkT, lsU, up]]
      exact hl
    · have hl : ∀ j, j < 5 → lkT (lsU (up T 19 (35 * s + 4 + P) sv) s K mu fr to se ex) s k j = lkT T s k j := fun j hj => h _ (by omega) (by omega)
      unfold IvL
      rw [hl 0 (by decide), hl 1 (by decide), hl 2 (by decide), hl 3 (by decide)]
      exact H.2.2.1 k hk
  · rw [h _ (by omega) (by omega), h _ (by omega) (by omega), h _ (by omega) (by omega), h _ (by omega) (by omega)]; exact H.2.2.2.1
  · rw [h _ (by omega) (by omega), h _ (by omega) (by omega), h _ (by omega) (by omega), h _ (by omega) (by omega)]; exact H.2.2.2.2.1
  · rw [h _ (by omega) (by omega)]; exact H.2.2.2.2.2 p hp
theorem lksT_eq (T : TB) (s k p q z : Nat) (v ex : Int32) : lksT T s k p q z v ex = lsU (up T 19 (35 * s + 4 + p) (T 19 (35 * s + 4 + p) - v)) s k v (nI p) (nI q) (nI z) ex := rfl
theorem ulkT_eq (T : TB) (s k p : Nat) : ulkT T s k p = lsU (up T 19 (35 * s + 4 + p) (T 19 (35 * s + 4 + p) + lkT T s k 0)) s k (nI 0) (nI 0) (nI 0) (nI 0) (nI 0) := rfl
theorem whole_ls (T : TB) (s : Nat) {K : Nat} (hK : K < 3) (mu fr to se ex : Int32) : wholeT (lsU T s K mu fr to se ex) s = wholeT T s - lkT T s K 0 + mu := by
  unfold lsU
  rw [whole_ot _ _ _ _ (by omega) (by omega), whole_ot _ _ _ _ (by omega) (by omega), whole_ot _ _ _ _ (by omega) (by omega), whole_ot _ _ _ _ (by omega) (by omega), whole_mu _ _ hK]
theorem Iv.lok {i : Nat} {T : TB} {C n Z hN S c K P : Nat} {sv mu fr to se ex : Int32} (H : Iv i T C n Z hN) (hS : S < n) (hc0 : T 19 (35 * S + 0) = nI c) (hc8 : c < 8) (h9 : ¬ T 9 c = nI 3) (hP : P < 6) (hK : K < 3) (hl : 0 ≤ mu ∧ okI fr 6 ∧ okI to 6 ∧ okI se 16 ∧ (mu ≠ 0 → okI se Z)) (hw : sv - T 19 (35 * S + 4 + P) = lkT T S K 0 - mu) : Iv i (lsU (up T 19 (35 * S + 4 + P) sv) S K mu fr to se ex) C n Z hN := by
  refine H.stw hS hc0 hc8 h9 (fun j x h => ?_) ?_ ((H.st hS).lok hP hK hl)
  · by_cases e : j = 19
    · subst e
      rw [lsU_o (by omega), up_x (by omega)]
    · unfold lsU
      rw [up_j _ _ _ _ e, up_j _ _ _ _ e, up_j _ _ _ _ e, up_j _ _ _ _ e, up_j _ _ _ _ e, up_j _ _ _ _ e]
  · rw [whole_ls _ _ hK, whole_sh _ _ hP, show lkT (up T 19 (35 * S + 4 + P) sv) S K 0 = lkT T S K 0 from up_i _ _ _ (by omega)]
    grind
/-- a game's place -/
theorem IvS.gam {T T' : TB} {Z s : Nat} (H : IvS T Z s) (h : ∀ x, 35 * s ≤ x → ¬ (35 * s + 4 ≤ x ∧ x < 35 * s + 10) → x < 35 * s + 31 → T' 19 x = T 19 x) (hg : gmI (T' 19 (35 * s + 31)) (T' 19 (35 * s + 32)) (T' 19 (35 * s + 33)) (T' 19 (35 * s + 34))) (hz : T' 19 (35 * s + 31) = 0 → T' 19 (35 * s + 32) = 0 ∧ T' 19 (35 * s + 33) = -1 ∧ T' 19 (35 * s + 34) = -1) : IvS T' Z s := by
  unfold IvS at H ⊢
  have hl : ∀ k, k < 3 → ∀ j, j < 5 → lkT T' s k j = lkT T s k j := fun k hk j hj => h _ (by omega) (by omega) (by omega)
  refine ⟨?_, ?_, fun k hk => ?_, hg, hz, fun p hp => ?_⟩
  · rw [h _ (by omega) (by omega) (by omega)]; exact H.1
  · rw [h _ (by omega) (by omega) (by omega)]; exact H.2.1
  · unfold IvL
    rw [hl k hk 0 (by decide), hl k hk 1 (by decide), hl k hk 2 (by decide), hl k hk 3 (by decide)]
    exact H.2.2.1 k hk
  · rw [h _ (by omega) (by omega) (by omega)]; exact H.2.2.2.2.2 p hp
theorem gamT_eq (T : TB) (S P Q : Nat) (v hp : Int32) : gamT T S P Q v hp = gsU (up (up T 19 (35 * S + 4 + P) (T 19 (35 * S + 4 + P) - v)) 19 (35 * S + 4 + Q) ((up T 19 (35 * S + 4 + P) (T 19 (35 * S + 4 + P) - v)) 19 (35 * S + 4 + Q) - v)) S (nI 2 * v) hp (nI P) (nI Q) := rfl
theorem gsU_o {T : TB} {s : Nat} {a b c d : Int32} {j x : Nat} (h : ¬ (j = 19 ∧ 35 * s + 31 ≤ x ∧ x < 35 * s + 35)) : gsU T s a b c d j x = T j x := by
  unfold gsU
  rw [up_x (by omega), up_x (by omega), up_x (by omega), up_x (by omega)]
theorem gsU_v (T : TB) (s : Nat) (a b c d : Int32) : gsU T s a b c d 19 (35 * s + 31) = a ∧ gsU T s a b c d 19 (35 * s + 32) = b ∧ gsU T s a b c d 19 (35 * s + 33) = c ∧ gsU T s a b c d 19 (35 * s + 34) = d := by
  refine ⟨?_, ?_, ?_, ?_⟩ <;> simp [gsU, up]
theorem whole_gs (T : TB) (s : Nat) (a b c d : Int32) : wholeT (gsU T s a b c d) s = wholeT T s - T 19 (35 * s + 31) + a := by
  unfold gsU
  rw [whole_ot _ _ _ _ (by omega) (by omega), whole_ot _ _ _ _ (by omega) (by omega), whole_ot _ _ _ _ (by omega) (by omega), whole_st]
theorem Iv.gam {i : Nat} {T : TB} {C n Z hN S c P Q : Nat} {v : Int32} {V h : Nat} (H : Iv i T C n Z hN) (hS : S < n) (hc0 : T 19 (35 * S + 0) = nI c) (hc8 : c < 8) (h9 : ¬ T 9 c = nI 3) (hP : P < 6) (hQ : Q < 6) (hne : P ≠ Q) (hv : v = nI V) (hV : 0 < V ∧ V ≤ 10000) (hh : 0 < h ∧ h ≤ 20) (h0 : T 19 (35 * S + 31) = 0) : Iv i (gamT T S P Q v (nI h)) C n Z hN := by
  rw [gamT_eq]
  obtain ⟨g1, g2, g3, g4⟩ := gsU_v (up (up T 19 (35 * S + 4 + P) (T 19 (35 * S + 4 + P) - v)) 19 (35 * S + 4 + Q) ((up T 19 (35 * S + 4 + P) (T 19 (35 * S + 4 + P) - v)) 19 (35 * S + 4 + Q) - v)) S (nI 2 * v) (nI h) (nI P) (nI Q)
  have e2 : nI 2 * v = nI (2 * V) := by rw [hv, pk_mul]
  refine H.stw hS hc0 hc8 h9 (fun j x q => by rw [gsU_o (by omega), up_x (by omega), up_x (by omega)]) ?_ ((H.st hS).gam (fun x q1 q2 q3 => by rw [gsU_o (by omega), up_x (by omega), up_x (by omega)]) ?_ ?_)
  · rw [whole_gs, whole_sh _ _ hQ, whole_sh _ _ hP, up_x (by omega), up_x (by omega), up_x (by omega), h0]
    rw [show nI 2 = (2 : Int32) by decide]
    grind
  · rw [g1, g2, g3, g4, e2]
    exact ⟨nI_pos' (by omega), fun _ => ⟨okI_nI hP, okI_nI hQ, h, hh.1, hh.2, rfl⟩⟩
  · rw [g1, e2]
    intro q
    exact absurd q (nI_ne0 (by omega) (by omega))
/-- a move in a state's game -/
theorem movT_eq (T : TB) (S : Nat) (t : Int32) (hp : ix (T 19 (35 * S + 33)) < 6) : movT T S t = if T 19 (35 * S + 32) - t = 0 then gsU (up T 19 (35 * S + 4 + ix (T 19 (35 * S + 33))) (T 19 (35 * S + 4 + ix (T 19 (35 * S + 33))) + T 19 (35 * S + 31))) S (nI 0) (T 19 (35 * S + 32) - t) (-1) (-1) else gsU T S (T 19 (35 * S + 31)) (T 19 (35 * S + 32) - t) (T 19 (35 * S + 34)) (T 19 (35 * S + 33)) := by
  unfold movT
  split
  · funext j x
    by_cases e : j = 19
    · subst e
      unfold mov0 gsU up
      by_cases a1 : x = 35 * S + 34
      · simp [a1]
      · by_cases a2 : x = 35 * S + 33
        · simp [a2]
        · by_cases a3 : x = 35 * S + 31
          · simp [a3]
          · by_cases a4 : x = 35 * S + 32
            · simp [a4]
              intro q
              omega
            · simp [a1, a2, a3, a4]
    · unfold mov0 gsU
      rw [up_j _ _ _ _ e, up_j _ _ _ _ e, up_j _ _ _ _ e, up_j _ _ _ _ e, up_j _ _ _ _ e, up_j _ _ _ _ e, up_j _ _ _ _ e, up_j _ _ _ _ e, up_j _ _ _ _ e, up_j _ _ _ _ e, up_j _ _ _ _ e, up_j _ _ _ _ e]
  · funext j x
    unfold mov0 gsU up
    by_cases e : j = 19 ∧ x = 35 * S + 31
    · rw [if_pos e, if_neg (by omega), if_neg (by omega), if_neg (by omega), if_neg (by omega), if_neg (by omega), if_neg (by omega), e.1, e.2]
    · by_cases a : j = 19 ∧ x = 35 * S + 32
      · obtain ⟨rfl, rfl⟩ := a
        simp
      · by_cases a2 : j = 19 ∧ x = 35 * S + 33
        · obtain ⟨rfl, rfl⟩ := a2
          simp
        · by_cases a3 : j = 19 ∧ x = 35 * S + 34
          · obtain ⟨rfl, rfl⟩ := a3
            simp
          · simp only [if_neg e, if_neg a, if_neg a2, if_neg a3]
theorem Iv.mov {i : Nat} {T : TB} {C n Z hN S c t : Nat} (H : Iv i T C n Z hN) (hS : S < n) (hc0 : T 19 (35 * S + 0) = nI c) (hc8 : c < 8) (h9 : ¬ T 9 c = nI 3) (h0 : ¬ T 19 (35 * S + 31) = 0) (ht : nI t ≤ T 19 (35 * S + 32)) (ht3 : t ≤ 3) : Iv i (movT T S (nI t)) C n Z hN := by
  obtain ⟨hp, hq, k, hk0, hk20, hk⟩ := (H.st hS).2.2.2.1.2 h0
  obtain ⟨hp1, hp2⟩ := hp.ix (by decide)
  rw [hk, nI_leI (by omega) (by omega)] at ht
  rw [movT_eq _ _ _ hp2]
  split
  · rename_i q
    obtain ⟨g1, g2, g3, g4⟩ := gsU_v (up T 19 (35 * S + 4 + ix (T 19 (35 * S + 33))) (T 19 (35 * S + 4 + ix (T 19 (35 * S + 33))) + T 19 (35 * S + 31))) S (nI 0) (T 19 (35 * S + 32) - nI t) (-1) (-1)
    refine H.stw hS hc0 hc8 h9 (fun j x q => by rw [gsU_o (by omega), up_x (by omega)]) ?_ ((H.st hS).gam (fun x q1 q2 q3 => by rw [gsU_o (by omega), up_x (by omega)]) ?_ ?_)
    · rw [whole_gs, whole_sh _ _ hp2, up_x (by omega), nI_0]
      grind
    · rw [g1]
      exact ⟨by decide, fun q => absurd nI_0 q⟩
    · rw [g2, g3, g4, q]
      exact fun _ => ⟨rfl, rfl, rfl⟩
  · rename_i q
    obtain ⟨g1, g2, g3, g4⟩ := gsU_v T S (T 19 (35 * S + 31)) (T 19 (35 * S + 32) - nI t) (T 19 (35 * S + 34)) (T 19 (35 * S + 33))
    rw [hk, pk_sub ht] at q
    refine H.stw hS hc0 hc8 h9 (fun j x q => gsU_o (by omega)) ?_ ((H.st hS).gam (fun x q1 q2 q3 => gsU_o (by omega)) ?_ ?_)
    · rw [whole_gs]
      grind
    · rw [g1, g2, g3, g4, hk, pk_sub ht]
      refine ⟨(H.st hS).2.2.2.1.1, fun _ => ⟨hq, hp, k - t, ?_, by omega, rfl⟩⟩
      rcases Nat.eq_zero_or_pos (k - t) with z | z
      · rw [z] at q
        exact absurd nI_0 q
      · exact z
    · rw [g1]
      exact fun q => absurd q h0
