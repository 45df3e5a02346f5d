/-! what holds stays: signing, agreeing, secrets, watching, hops -/
theorem bits_add : ∀ (g : Fin 64) (p : Fin 6), hasB (nI g) (nI p) = false → (∃ m : Fin 64, nI g + shiT p = nI m) ∧ nI g + shiT p = nI g ||| shiT p := by decide +kernel
theorem bits_or : ∀ (g : Fin 64) (p : Fin 6), ∃ m : Fin 64, nI g ||| shiT p = nI m := by decide +kernel
theorem addB {x : Int32} (h : okI x 64) {P : Nat} (hP : P < 6) (hb : hasB x (nI P) = false) : okI (x + shiT P) 64 ∧ x + shiT P = x ||| shiT P := by
  obtain ⟨g, h1, rfl⟩ := h
  obtain ⟨⟨m, hm⟩, h2⟩ := bits_add ⟨g, h1⟩ ⟨P, hP⟩ hb
  exact ⟨⟨m, m.isLt, hm⟩, h2⟩
theorem orB {x : Int32} (h : okI x 64) {P : Nat} (hP : P < 6) : okI (x ||| shiT P) 64 := by
  obtain ⟨g, h1, rfl⟩ := h
  obtain ⟨m, hm⟩ := bits_or ⟨g, h1⟩ ⟨P, hP⟩
  exact ⟨m, m.isLt, hm⟩
theorem nwT_ex {T : TB} {c n s : Nat} (hs : s < n) (hc : T 19 (35 * s + 0) = nI c) (hk : cnt T c s = true) : ∃ s', s' < n ∧ nwT T c n = nI s' := by
  induction n with
  | zero => omega
  | succ n ih =>
    rw [nwT]
    split
    · exact ⟨n, by omega, rfl⟩
    · rename_i q
      have : s ≠ n := fun e => q (by rw [← e]; exact ⟨hc, hk⟩)
      obtain ⟨s', h1, h2⟩ := ih (by omega)
      exact ⟨s', by omega, h2⟩
theorem nwT_is {T : TB} {c n s : Nat} (hs : s < n) (hc : T 19 (35 * s + 0) = nI c) (hk : cnt T c s = true) (ho : ∀ s', s < s' → s' < n → T 19 (35 * s' + 0) = nI c → cnt T c s' = false) : nwT T c n = nI s := by
  induction n with
  | zero => omega
  | succ n ih =>
    rw [nwT]
    by_cases e : s = n
    · subst e
      rw [if_pos ⟨hc, hk⟩]
    · rw [if_neg (fun q => by rw [ho n (by omega) (by omega) q.1] at q; exact absurd q.2 (by decide))]
      exact ih (by omega) (fun s' h1 h2 => ho s' h1 (by omega))
/-- no state counts above the newest -/
theorem nwT_ab {T : TB} {c n s : Nat} (hn : n ≤ 64) (hs : s < 64) (h : nwT T c n = nI s) : ∀ s', s < s' → s' < n → T 19 (35 * s' + 0) = nI c → cnt T c s' = false := by
  induction n with
  | zero => intro s' _ h2; omega
  | succ n ih =>
    rw [nwT] at h
    intro s' h1 h2 h3
    split at h
    · rw [nI_eq (by omega) (by omega)] at h
      omega
    · rename_i q
      by_cases e : s' = n
      · subst e
        cases e2 : cnt T c s' with
        | false => rfl
        | true => exact absurd ⟨h3, e2⟩ q
      · exact ih (by omega) h s' h1 (by omega) h3
/-- a state's rows but the first two change; its whole is the same; the class's newest is told anew -/
theorem Iv.stw2 {i : Nat} {T T' : TB} {C n Z hN S c : Nat} (H : Iv i T C n Z hN) (hS : S < n) (hc : c < C) (hc0 : T 19 (35 * S + 0) = nI c) (h9 : ¬ T 9 c = nI 3)
    (ho : ∀ j x, ¬ (j = 19 ∧ 35 * S + 2 ≤ x ∧ x < 35 * S + 35) → ¬ (j = 25 ∧ x = c) → T' j x = T j x) (hw : wholeT T' S = wholeT T S) (hS' : IvS T' Z S) (hC : IvC T' n c) : Iv i T' C n Z hN := by
  have h64 := H.n64
  have hC8 := H.C8
  have hj : ∀ j x, j ≠ 19 → j ≠ 25 → T' j x = T j x := fun j x h h' => ho j x (fun q => h q.1) (fun q => h' q.1)
  have h0 : ∀ s, T' 19 (35 * s + 0) = T 19 (35 * s + 0) := fun s => ho 19 _ (by omega) (by omega)
  have hr : ∀ s x, s ≠ S → 35 * s ≤ x → x < 35 * s + 35 → T' 19 x = T 19 x := fun s x h h1 h2 => ho 19 x (by omega) (by omega)
  have hwh : ∀ s, wholeT T' s = wholeT T s := fun s => by
    by_cases e : s = S
    · subst e; exact hw
    · unfold wholeT
      rw [hr s _ e (by omega) (by omega), hr s _ e (by omega) (by omega), hr s _ e (by omega) (by omega), hr s _ e (by omega) (by omega), hr s _ e (by omega) (by omega), hr s _ e (by omega) (by omega), hr s _ e (by omega) (by omega), hr s _ e (by omega) (by omega), hr s _ e (by omega) (by omega), hr s _ e (by omega) (by omega)]
  refine ⟨?_, ?_, fun s hsn => ⟨?_, ?_⟩, fun d hd => ⟨?_, ?_⟩⟩
  · obtain ⟨g1, g2, g3, g4, g5, g6, g7, g8, g9, g10, g11⟩ := H.1
    refine ⟨by rw [hj 5 0 (by omega) (by omega)]; exact g1, g2, by rw [hj 18 0 (by omega) (by omega)]; exact g3, g4, by rw [hj 3 0 (by omega) (by omega)]; exact g5, g6, by rw [hj 20 0 (by omega) (by omega)]; exact g7, g8, by rw [hj 1 0 (by omega) (by omega)]; exact g9, fun z hz => by rw [hj 4 z (by omega) (by omega)]; exact g10 z hz, fun d hd => ?_⟩
    rw [hj 12 d (by omega) (by omega), hj 13 d (by omega) (by omega)]
    exact g11 d hd
  · obtain ⟨g1, g2⟩ := H.2.1
    refine ⟨fun q hq => ?_, fun q r h1 h2 => ?_⟩
    · rw [hj 21 q (by omega) (by omega), hj 22 q (by omega) (by omega), hj 23 q (by omega) (by omega)]
      exact g1 q hq
    · rw [hj 21 q (by omega) (by omega), hj 21 r (by omega) (by omega)]
      exact g2 q r h1 h2
  · by_cases e : s = S
    · subst e; exact hS'
    · exact (H.st hsn).congr (fun x h1 h2 => hr s x e h1 h2)
  · obtain ⟨d, h1, h2, h3, h5⟩ := H.sr hsn
    refine ⟨d, h1, by rw [h0]; exact h2, by rw [ho 19 (35 * s + 1) (by omega) (by omega), rkT_congr (fun s _ => h0 s)]; exact h3, fun q => ?_⟩
    rw [hj 9 d (by decide) (by decide)] at q
    rw [hwh s, hj 8 d (by decide) (by decide)]
    exact h5 q
  · by_cases e : d = c
    · subst e; exact hC
    · refine (H.ch hd).congr (fun j hjj => ho j d (by omega) (by omega)) (rkT_congr (fun s _ => h0 s)) (fun q => nwT_congr (fun s _ => h0 s) (fun s hs hsd => cnt_congr (by rw [hj 9 d (by decide) (by decide)]) (hj 6 d (by decide) (by decide)) (fun _ => hj 8 d (by decide) (by decide)) (fun x h1 h2 => hr s x (fun es => ?_) h1 h2))) (fun s _ => h0 s)
      subst es
      rw [hc0, nI_eq (by omega) (by omega)] at hsd
      exact e hsd.symm
  · have hE := H.he hd
    by_cases e3 : T 9 d = nI 3
    · refine hE.congr (fun j _ => hj j d (by omega) (by omega)) (fun k hk => ?_)
      have hb : ix (T 10 d) ≠ S := fun e => by
        obtain ⟨b, h1, h2, h3⟩ := (H.ch hd).2.2.2.2.1 (by rw [e3]; decide)
        rw [h2, ix_nI (by omega)] at e
        subst e
        rw [hc0, nI_eq (by omega) (by omega)] at h3
        rw [h3] at h9
        exact h9 e3
      exact hr _ _ hb (by omega) (by omega)
    · unfold IvE at hE ⊢
      rw [hj 9 d (by decide) (by decide), hj 10 d (by decide) (by decide), hj 12 d (by decide) (by decide), hj 13 d (by decide) (by decide), hj 14 d (by decide) (by decide), hj 15 d (by decide) (by decide), hj 16 d (by decide) (by decide), hj 17 d (by decide) (by decide), hj 27 d (by decide) (by decide)]
      refine ⟨hE.1, hE.2.1, fun k hk q => ?_, hE.2.2.2.1, hE.2.2.2.2.1, hE.2.2.2.2.2⟩
      rw [(hE.2.1 e3).1, hasB_z hk] at q
      cases q
theorem IvS.sig {T T' : TB} {Z s : Nat} (H : IvS T Z s) (h : ∀ x, 35 * s ≤ x → x < 35 * s + 35 → x ≠ 35 * s + 2 → x ≠ 35 * s + 3 → T' 19 x = T 19 x) (h2 : okI (T' 19 (35 * s + 2)) 64) (h3 : okI (T' 19 (35 * s + 3)) 64) : IvS T' Z s := by
  unfold IvS at H ⊢
  have hl : ∀ k, k < 3 → ∀ j, j < 5 → lkT T' s k j = lkT T s k j := fun k hk j hj => h _ (by omega) (by omega) (by omega) (by omega)
  refine ⟨h2, h3, fun k hk => ?_, ?_, ?_, fun p hp => ?_⟩
  · unfold IvL
    rw [hl k hk 0 (by decide), hl k hk 1 (by decide), hl k hk 2 (by decide), hl k hk 3 (by decide)]
    exact H.2.2.1 k hk
  · rw [h _ (by omega) (by omega) (by omega) (by omega), h _ (by omega) (by omega) (by omega) (by omega), h _ (by omega) (by omega) (by omega) (by omega), h _ (by omega) (by omega) (by omega) (by omega)]; exact H.2.2.2.1
  · rw [h _ (by omega) (by omega) (by omega) (by omega), h _ (by omega) (by omega) (by omega) (by omega), h _ (by omega) (by omega) (by omega) (by omega), h _ (by omega) (by omega) (by omega) (by omega)]; exact H.2.2.2.2.1
  · rw [h _ (by omega) (by omega) (by omega) (by omega)]; exact H.2.2.2.2.2 p hp
theorem cnt_sg {T : TB} {c s : Nat} (h : cnt T c s = true) : T 19 (35 * s + 2) = T 6 c ∧ wholeT T s = T 8 c := by
  unfold cnt at h
  simp only [Bool.and_eq_true, decide_eq_true_eq] at h
  exact h.2
theorem Iv.sgn {i : Nat} {T : TB} {C n Z hN S c P : Nat} (H : Iv i T C n Z hN) (hS : S < n) (hc : c < C) (hc0 : T 19 (35 * S + 0) = nI c) (h9 : ¬ T 9 c = nI 3) (hP : P < 6) (hm : mbT T c (nI P) = true) (hb : hasB (T 19 (35 * S + 2)) (nI P) = false) : Iv i (sgnT T c n S P) C n Z hN := by
  have h64 := H.n64
  have ho : ∀ j x, ¬ (j = 19 ∧ x = 35 * S + 2) → ¬ (j = 25 ∧ x = c) → sgnT T c n S P j x = T j x := fun j x h1 h2 => by
    unfold sgnT sgn0
    rw [show up _ 25 c _ j x = _ from if_neg h2, show up T 19 (35 * S + 2) _ j x = _ from if_neg h1]
  have hw : wholeT (sgnT T c n S P) S = wholeT T S := by
    unfold wholeT
    rw [ho 19 _ (by omega) (by omega), ho 19 _ (by omega) (by omega), ho 19 _ (by omega) (by omega), ho 19 _ (by omega) (by omega), ho 19 _ (by omega) (by omega), ho 19 _ (by omega) (by omega), ho 19 _ (by omega) (by omega), ho 19 _ (by omega) (by omega), ho 19 _ (by omega) (by omega), ho 19 _ (by omega) (by omega)]
  obtain ⟨hk, _⟩ := addB (H.st hS).1 hP hb
  have e2 : sgnT T c n S P 19 (35 * S + 2) = T 19 (35 * S + 2) + shiT P := by
    unfold sgnT sgn0
    rw [up_j _ _ _ _ (by decide), up_s]
  have e25 : sgnT T c n S P 25 c = nwT (sgn0 T S P) c n := up_s _ _ _ _
  have hnw : nwT (sgnT T c n S P) c n = nwT (sgn0 T S P) c n := nwT_congr (fun s _ => up_j _ _ _ _ (by decide)) (fun s _ _ => cnt_congr (Iff.of_eq (congrArg (· = nI 3) (up_j _ _ _ _ (by decide)))) (up_j _ _ _ _ (by decide)) (fun _ => up_j _ _ _ _ (by decide)) (fun x _ _ => up_j _ _ _ _ (by decide)))
  refine H.stw2 hS hc hc0 h9 (fun j x h1 h2 => ho j x (by omega) h2) hw ((H.st hS).sig (fun x h1 h2 h3 h4 => ho 19 x (by omega) (by omega)) (by rw [e2]; exact hk) (by rw [ho 19 _ (by omega) (by omega)]; exact (H.st hS).2.1)) ?_
  have hC := H.ch hc
  unfold IvC at hC ⊢
  rw [ho 6 c (by omega) (by omega), ho 9 c (by omega) (by omega), ho 10 c (by omega) (by omega), ho 24 c (by omega) (by omega), ho 26 c (by omega) (by omega), ho 11 c (by omega) (by omega), e25, hnw, rkT_congr (fun s _ => ho 19 _ (by omega) (by omega))]
  refine ⟨hC.1, hC.2.1, hC.2.2.1, hC.2.2.2.1, fun q => ?_, hC.2.2.2.2.2.1, fun q => absurd q h9, fun q => ⟨rfl, ?_⟩, hC.2.2.2.2.2.2.2.2.1, hC.2.2.2.2.2.2.2.2.2⟩
  · obtain ⟨b, h1, h2, h3⟩ := hC.2.2.2.2.1 q
    exact ⟨b, h1, h2, by rw [ho 19 _ (by omega) (by omega)]; exact h3⟩
  · obtain ⟨_, s0, h1, h2⟩ := hC.2.2.2.2.2.2.2.1 h9
    obtain ⟨_, h3, h4⟩ := nwT_ch (by omega) (by omega) h2
    have hne : s0 ≠ S := fun e => by
      subst e
      rw [(cnt_sg h4).1] at hb
      unfold mbT at hm
      rw [hb, Bool.and_false] at hm
      cases hm
    rw [← hnw]
    refine nwT_ex h1 (by rw [ho 19 _ (by omega) (by omega)]; exact h3) ?_
    rw [← h4]
    exact cnt_congr (by rw [ho 9 c (by omega) (by omega)]) (ho 6 c (by omega) (by omega)) (fun _ => ho 8 c (by omega) (by omega)) (fun x g1 g2 => ho 19 x (by omega) (by omega))
theorem Iv.agr {i : Nat} {T : TB} {C n Z hN S c P : Nat} (H : Iv i T C n Z hN) (hS : S < n) (hc8 : c < 8) (hc0 : T 19 (35 * S + 0) = nI c) (h9 : ¬ T 9 c = nI 3) (hP : P < 6) (hb : hasB (T 19 (35 * S + 3)) (nI P) = false) : Iv i (agr0 T S P) C n Z hN := by
  obtain ⟨hk, _⟩ := addB (H.st hS).2.1 hP hb
  refine H.stw hS hc0 hc8 h9 (fun j x h => up_x (by omega)) (whole_ot _ _ _ _ (by omega) (by omega)) ((H.st hS).sig (fun x h1 h2 h3 h4 => up_x (by omega)) ?_ ?_)
  · rw [show agr0 T S P 19 (35 * S + 2) = _ from up_x (by omega)]
    exact (H.st hS).1
  · rw [show agr0 T S P 19 (35 * S + 3) = _ from up_s _ _ _ _]
    exact hk
theorem Iv.sec {i : Nat} {T : TB} {C n Z hN P : Nat} (H : Iv i T C n Z hN) (hZ : Z < 16) (hP : P < 6) : Iv i (secT T Z P) C n (Z + 1) hN := by
  have hj : ∀ j x, j ≠ 3 → j ≠ 4 → secT T Z P j x = T j x := fun j x h1 h2 => by
    unfold secT
    rw [up_j _ _ _ _ h1, up_j _ _ _ _ h2]
  have h19 : ∀ x, secT T Z P 19 x = T 19 x := fun x => hj 19 x (by decide) (by decide)
  refine ⟨?_, ?_, fun s hsn => ⟨?_, ?_⟩, fun d hd => ⟨(H.ch hd).congr (fun j _ => hj j d (by omega) (by omega)) (rkT_congr (fun s _ => h19 _)) (fun q => nwT_congr (fun s _ => h19 _) (fun s _ _ => cnt_congr (by rw [hj 9 d (by omega) (by omega)]) (hj 6 d (by omega) (by omega)) (fun _ => hj 8 d (by omega) (by omega)) (fun x _ _ => h19 x))) (fun s _ => h19 _), (H.he hd).congr (fun j _ => hj j d (by omega) (by omega)) (fun k hk => h19 _)⟩⟩
  · obtain ⟨g1, g2, g3, g4, g5, g6, g7, g8, g9, g10, g11⟩ := H.1
    refine ⟨by rw [hj 5 0 (by omega) (by omega)]; exact g1, g2, by rw [hj 18 0 (by omega) (by omega)]; exact g3, g4, up_s _ _ _ _, hZ, by rw [hj 20 0 (by omega) (by omega)]; exact g7, g8, by rw [hj 1 0 (by omega) (by omega)]; exact g9, fun z hz => ?_, fun d hd => ?_⟩
    · unfold secT
      rw [up_j _ _ _ _ (by decide)]
      by_cases e : z = Z
      · subst e
        rw [up_s]
        obtain ⟨m, hm⟩ := bits_or ⟨0, by decide⟩ ⟨P, hP⟩
        exact ⟨m, m.isLt, by rw [← hm]; show shiT P = nI 0 ||| shiT P; rw [nI_0, Int32.zero_or]⟩
      · rw [up_i _ _ _ e]
        exact g10 z hz
    · rw [hj 12 d (by omega) (by omega), hj 13 d (by omega) (by omega)]
      exact g11 d hd
  · obtain ⟨g1, g2⟩ := H.2.1
    refine ⟨fun q hq => ?_, fun q r h1 h2 => ?_⟩
    · rw [hj 21 q (by omega) (by omega), hj 22 q (by omega) (by omega), hj 23 q (by omega) (by omega)]
      exact g1 q hq
    · rw [hj 21 q (by omega) (by omega), hj 21 r (by omega) (by omega)]
      exact g2 q r h1 h2
  · have h0 := (H.st hsn).congr (T' := secT T Z P) (fun x _ _ => h19 x)
    unfold IvS at h0 ⊢
    refine ⟨h0.1, h0.2.1, fun k hk => ?_, h0.2.2.2⟩
    obtain ⟨l1, l2, l3, l4, l5⟩ := h0.2.2.1 k hk
    exact ⟨l1, l2, l3, l4, fun q => (l5 q).mono (by omega)⟩
  · obtain ⟨d, h1, h2, h3, h5⟩ := H.sr hsn
    refine ⟨d, h1, by rw [h19]; exact h2, by rw [h19, rkT_congr (fun s _ => h19 _)]; exact h3, fun q => ?_⟩
    rw [wholeT_congr h19, hj 8 d (by omega) (by omega)]
    rw [hj 9 d (by omega) (by omega)] at q
    exact h5 q
/-- numbers of the object itself: who is watched, hops -/
theorem Iv.self {i : Nat} {T T' : TB} {C n Z hN hN' : Nat} (H : Iv i T C n Z hN) (hj : ∀ j x, j ≠ 1 → j ≠ 20 → j ≠ 21 → j ≠ 22 → j ≠ 23 → T' j x = T j x) (h1 : okI (T' 1 0) 64) (h20 : T' 20 0 = nI hN') (h4 : hN' ≤ 4) (hH : IvH T' C hN') : Iv i T' C n Z hN' := by
  have h19 : ∀ x, T' 19 x = T 19 x := fun x => hj 19 x (by decide) (by decide) (by decide) (by decide) (by decide)
  have hk : ∀ j x, j < 18 → j ≠ 1 → T' j x = T j x := fun j x a b => hj j x b (by omega) (by omega) (by omega) (by omega)
  have hg : ∀ j x, 24 ≤ j → T' j x = T j x := fun j x a => hj j x (by omega) (by omega) (by omega) (by omega) (by omega)
  refine ⟨?_, hH, fun s hsn => ⟨(H.st hsn).congr (fun x _ _ => h19 x), ?_⟩, fun d hd => ⟨(H.ch hd).congr (fun j _ => hj j d (by omega) (by omega) (by omega) (by omega) (by omega)) (rkT_congr (fun s _ => h19 _)) (fun q => nwT_congr (fun s _ => h19 _) (fun s _ _ => cnt_congr (by rw [hk 9 d (by omega) (by omega)]) (hk 6 d (by omega) (by omega)) (fun _ => hk 8 d (by omega) (by omega)) (fun x _ _ => h19 x))) (fun s _ => h19 _), (H.he hd).congr (fun j _ => hj j d (by omega) (by omega) (by omega) (by omega) (by omega)) (fun k hk => h19 _)⟩⟩
  · obtain ⟨g1, g2, g3, g4, g5, g6, g7, g8, g9, g10, g11⟩ := H.1
    refine ⟨by rw [hk 5 0 (by omega) (by omega)]; exact g1, g2, by rw [hj 18 0 (by omega) (by omega) (by omega) (by omega) (by omega)]; exact g3, g4, by rw [hk 3 0 (by omega) (by omega)]; exact g5, g6, h20, h4, h1, fun z hz => by rw [hk 4 z (by omega) (by omega)]; exact g10 z hz, fun d hd => ?_⟩
    rw [hk 12 d (by omega) (by omega), hk 13 d (by omega) (by omega)]
    exact g11 d hd
  · obtain ⟨d, a1, a2, a3, a5⟩ := H.sr hsn
    refine ⟨d, a1, by rw [h19]; exact a2, by rw [h19, rkT_congr (fun s _ => h19 _)]; exact a3, fun q => ?_⟩
    rw [wholeT_congr h19, hk 8 d (by omega) (by omega)]
    rw [hk 9 d (by omega) (by omega)] at q
    exact a5 q
theorem wch_all : ∀ (w : Fin 64) (p : Fin 6), (∃ m : Fin 64, wchV (nI w) p (nI 0) = nI m) ∧ (∃ m : Fin 64, wchV (nI w) p (nI 1) = nI m) := by decide +kernel
theorem wch_ok {w : Int32} (h : okI w 64) {P : Nat} (hP : P < 6) {on : Int32} (hon : on = nI 0 ∨ on = nI 1) : okI (wchV w P on) 64 := by
  obtain ⟨g, h1, rfl⟩ := h
  obtain ⟨⟨m, hm⟩, ⟨m', hm'⟩⟩ := wch_all ⟨g, h1⟩ ⟨P, hP⟩
  rcases hon with rfl | rfl
  · exact ⟨m, m.isLt, hm⟩
  · exact ⟨m', m'.isLt, hm'⟩
theorem Iv.wch {i : Nat} {T : TB} {C n Z hN : Nat} (H : Iv i T C n Z hN) {v : Int32} (hv : okI v 64) : Iv i (up T 1 0 v) C n Z hN :=
  H.self (fun j x h _ _ _ _ => up_j _ _ _ _ h) hv H.h20 H.h4 H.2.1
theorem Iv.hop0 {i : Nat} {T : TB} {C n Z hN : Nat} (H : Iv i T C n Z hN) : Iv i (up T 20 0 (nI 0)) C n Z 0 ∧ IvH (up T 20 0 (nI 0)) C hN :=
  ⟨H.self (fun j x _ h _ _ _ => up_j _ _ _ _ h) H.w1 (up_s _ _ _ _) (by omega) ⟨fun q hq => by omega, fun q r h1 h2 => by omega⟩, H.2.1⟩
theorem Iv.hop {i : Nat} {T : TB} {C n Z hN c F P : Nat} (H : Iv i T C n Z hN) (hc : c < C) (hF : F < 6) (hP : P < 6) (h4 : hN < 4) (ha : agT T (nI c) hN = false) : Iv i (hpT T hN (nI c) (nI F) (nI P)) C n Z (hN + 1) := by
  have ag : ∀ q, q < hN → ¬ T 21 q = nI c := fun q hq e => by
    have key : ∀ m, q < m → agT T (nI c) m = true := fun m => by
      induction m with
      | zero => intro h; omega
      | succ m ih =>
        intro h
        rw [agT]
        by_cases e2 : q = m
        · subst e2
          rw [decide_eq_true e, Bool.or_true]
        · rw [ih (by omega), Bool.true_or]
    rw [key hN hq] at ha
    cases ha
  have e21 : ∀ q, hpT T hN (nI c) (nI F) (nI P) 21 q = if q = hN then nI c else T 21 q := fun q => by simp [hpT, up]
  have e22 : ∀ q, hpT T hN (nI c) (nI F) (nI P) 22 q = if q = hN then nI F else T 22 q := fun q => by simp [hpT, up]
  have e23 : ∀ q, hpT T hN (nI c) (nI F) (nI P) 23 q = if q = hN then nI P else T 23 q := fun q => by simp [hpT, up]
  refine H.self (fun j x _ h1 h2 h3 h5 => ?_) H.w1 (up_s _ _ _ _) (by omega) ⟨fun q hq => ?_, fun q r h1 h2 => ?_⟩
  · unfold hpT
    rw [up_j _ _ _ _ h1, up_j _ _ _ _ h5, up_j _ _ _ _ h3, up_j _ _ _ _ h2]
  · rw [e21, e22, e23]
    by_cases e : q = hN
    · rw [if_pos e, if_pos e, if_pos e]
      exact ⟨okI_nI hc, okI_nI hF, okI_nI hP⟩
    · rw [if_neg e, if_neg e, if_neg e]
      exact H.2.1.1 q (by omega)
  · rw [e21, e21, if_neg (show q ≠ hN by omega)]
    by_cases e : r = hN
    · rw [if_pos e]
      exact ag q (by omega)
    · rw [if_neg e]
      exact H.2.1.2 q r h1 (by omega)
