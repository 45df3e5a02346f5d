/-! what holds stays: steps on a channel -/
theorem cnt_congr {T T' : TB} {c s : Nat} (h9 : (T' 9 c = nI 3) ↔ (T 9 c = nI 3)) (h6 : T' 6 c = T 6 c) (h8 : ¬ T 9 c = nI 3 → T' 8 c = T 8 c) (h19 : ∀ x, 35 * s ≤ x → x < 35 * s + 35 → T' 19 x = T 19 x) : cnt T' c s = cnt T c s := by
  have hw : wholeT T' s = wholeT T s := by
    unfold wholeT
    rw [h19 _ (by omega) (by omega), h19 _ (by omega) (by omega), h19 _ (by omega) (by omega), h19 _ (by omega) (by omega), h19 _ (by omega) (by omega), h19 _ (by omega) (by omega), h19 _ (by omega) (by omega), h19 _ (by omega) (by omega), h19 _ (by omega) (by omega), h19 _ (by omega) (by omega)]
  unfold cnt
  rw [hw, h6, h19 (35 * s + 2) (by omega) (by omega)]
  by_cases e : T 9 c = nI 3
  · rw [decide_eq_true e, decide_eq_true (h9.mpr e)]
    rfl
  · rw [h8 e, decide_eq_false e, decide_eq_false (fun q => e (h9.mp q))]
theorem nwT_congr {T T' : TB} {c n : Nat} (h : ∀ s, s < n → T' 19 (35 * s + 0) = T 19 (35 * s + 0)) (hc : ∀ s, s < n → T 19 (35 * s + 0) = nI c → cnt T' c s = cnt T c s) : nwT T' c n = nwT T c n := by
  induction n with
  | zero => rfl
  | succ n ih =>
    rw [nwT, nwT, ih (fun s hs => h s (by omega)) (fun s hs => hc s (by omega)), h n (by omega)]
    by_cases e : T 19 (35 * n + 0) = nI c
    · rw [hc n (by omega) e]
    · rw [if_neg (fun q => e q.1), if_neg (fun q => e q.1)]
theorem rkT_congr {T T' : TB} {c n : Nat} (h : ∀ s, s < n → T' 19 (35 * s + 0) = T 19 (35 * s + 0)) : rkT T' c n = rkT T c n := by
  induction n with
  | zero => rfl
  | succ n ih => rw [rkT, rkT, ih (fun s hs => h s (by omega)), h n (by omega)]
theorem wholeT_congr {T T' : TB} {s : Nat} (h19 : ∀ x, T' 19 x = T 19 x) : wholeT T' s = wholeT T s := by
  unfold wholeT
  simp only [h19]
theorem IvS.congr {T T' : TB} {Z s : Nat} (h : ∀ x, 35 * s ≤ x → x < 35 * s + 35 → T' 19 x = T 19 x) (H : IvS T Z s) : IvS T' Z s := by
  unfold IvS at H ⊢
  have hl : ∀ k, k < 3 → ∀ j, j < 5 → lkT T' s k j = lkT T s k j := fun k hk j hj => h _ (by omega) (by omega)
  refine ⟨?_, ?_, fun k hk => ?_, ?_, ?_, fun p hp => ?_⟩
  · rw [h _ (by omega) (by omega)]; exact H.1
  · rw [h _ (by omega) (by omega)]; exact H.2.1
  · unfold IvL
    rw [hl k hk 0 (by decide), hl k hk 1 (by decide), hl k hk 2 (by decide), hl k hk 3 (by decide)]
    exact H.2.2.1 k hk
  · rw [h _ (by omega) (by omega), h _ (by omega) (by omega), h _ (by omega) (by omega), h _ (by omega) (by omega)]; exact H.2.2.2.1
  · rw [h _ (by omega) (by omega), h _ (by omega) (by omega), h _ (by omega) (by omega), h _ (by omega) (by omega)]; exact H.2.2.2.2.1
  · rw [h _ (by omega) (by omega)]; exact H.2.2.2.2.2 p hp
theorem IvC.congr {T T' : TB} {n c : Nat} (hj : ∀ j, j = 6 ∨ (8 ≤ j ∧ j ≤ 11) ∨ (24 ≤ j ∧ j ≤ 26) → T' j c = T j c) (hr : rkT T' c n = rkT T c n) (hn : ¬ T 9 c = nI 3 → nwT T' c n = nwT T c n) (h0 : ∀ s, s < n → T' 19 (35 * s + 0) = T 19 (35 * s + 0)) (H : IvC T n c) : IvC T' n c := by
  unfold IvC at H ⊢
  rw [hj 6 (by omega), hj 9 (by omega), hj 10 (by omega), hj 24 (by omega), hj 25 (by omega), hj 26 (by omega), hj 11 (by omega), hr]
  refine ⟨H.1, H.2.1, H.2.2.1, H.2.2.2.1, fun q => ?_, H.2.2.2.2.2.1, H.2.2.2.2.2.2.1, fun q => ?_, H.2.2.2.2.2.2.2.2.1, H.2.2.2.2.2.2.2.2.2⟩
  · obtain ⟨b, h1, h2, h3⟩ := H.2.2.2.2.1 q
    exact ⟨b, h1, h2, by rw [h0 b h1]; exact h3⟩
  · rw [hn q]
    exact H.2.2.2.2.2.2.2.1 q
theorem IvE.congr {T T' : TB} {c : Nat} (hj : ∀ j, (j = 9 ∨ j = 10 ∨ (12 ≤ j ∧ j ≤ 17) ∨ j = 27) → T' j c = T j c) (h0 : ∀ k, k < 3 → lkT T' (ix (T 10 c)) k 0 = lkT T (ix (T 10 c)) k 0) (H : IvE T c) : IvE T' c := by
  unfold IvE at H ⊢
  rw [hj 9 (by omega), hj 10 (by omega), hj 12 (by omega), hj 13 (by omega), hj 14 (by omega), hj 15 (by omega), hj 16 (by omega), hj 17 (by omega), hj 27 (by omega)]
  refine ⟨H.1, H.2.1, fun k hk q => ?_, H.2.2.2.1, H.2.2.2.2.1, H.2.2.2.2.2⟩
  rw [h0 k hk]
  exact H.2.2.1 k hk q
/-- one channel's numbers change, and sums in accounts, and what is known -/
theorem Iv.chan {i : Nat} {T T' : TB} {C n Z hN c : Nat} (H : Iv i T C n Z hN) (hc : c < C)
    (hs : ∀ j x, j = 1 ∨ j = 3 ∨ j = 5 ∨ j = 6 ∨ j = 18 ∨ j = 19 ∨ j = 20 ∨ j = 21 ∨ j = 22 ∨ j = 23 → T' j x = T j x)
    (h4 : ∀ z, z < 16 → okI (T' 4 z) 64)
    (ho : ∀ j d, d ≠ c → (8 ≤ j ∧ j ≤ 17) ∨ (24 ≤ j ∧ j ≤ 27) → T' j d = T j d)
    (hC : IvC T' n c) (hE : IvE T' c) (hR : ¬ T' 9 c = nI 3 → T' 8 c = T 8 c ∧ ¬ T 9 c = nI 3) : Iv i T' C n Z hN := by
  have hC8 := H.C8
  have h19 : ∀ x, T' 19 x = T 19 x := fun x => hs 19 x (by omega)
  refine ⟨?_, ?_, fun s hsn => ⟨(H.st hsn).congr (fun x _ _ => h19 x), ?_⟩, fun d hd => ?_⟩
  · obtain ⟨g1, g2, g3, g4, g5, g6, g7, g8, g9, _, g11⟩ := H.1
    refine ⟨by rw [hs 5 0 (by omega)]; exact g1, g2, by rw [hs 18 0 (by omega)]; exact g3, g4, by rw [hs 3 0 (by omega)]; exact g5, g6, by rw [hs 20 0 (by omega)]; exact g7, g8, by rw [hs 1 0 (by omega)]; exact g9, h4, fun d hd => ?_⟩
    rw [ho 12 d (by omega) (by omega), ho 13 d (by omega) (by omega)]
    exact g11 d hd
  · obtain ⟨g1, g2⟩ := H.2.1
    refine ⟨fun q hq => ?_, fun q r h1 h2 => ?_⟩
    · rw [hs 21 q (by omega), hs 22 q (by omega), hs 23 q (by omega)]
      exact g1 q hq
    · rw [hs 21 q (by omega), hs 21 r (by omega)]
      exact g2 q r h1 h2
  · obtain ⟨d, h1, h2, h3, h5⟩ := H.sr hsn
    refine ⟨d, h1, by rw [h19]; exact h2, by rw [h19, rkT_congr (fun s _ => h19 _)]; exact h3, fun q => ?_⟩
    rw [wholeT_congr h19]
    by_cases e : d = c
    · subst e
      obtain ⟨r1, r2⟩ := hR q
      rw [r1]
      exact h5 r2
    · rw [ho 9 d e (by omega)] at q
      rw [ho 8 d e (by omega)]
      exact h5 q
  · by_cases e : d = c
    · subst e
      exact ⟨hC, hE⟩
    · refine ⟨(H.ch hd).congr (fun j hj => ?_) (rkT_congr (fun s _ => h19 _)) (fun q => nwT_congr (fun s _ => h19 _) (fun s _ _ => cnt_congr (by rw [ho 9 d e (by omega)]) (hs 6 d (by omega)) (fun _ => ho 8 d e (by omega)) (fun x _ _ => h19 x))) (fun s _ => h19 _), (H.he hd).congr (fun j hj => ho j d e (by omega)) (fun k hk => h19 _)⟩
      by_cases e6 : j = 6
      · rw [e6]; exact hs 6 d (by omega)
      · exact ho j d e (by omega)
theorem bits_sub : ∀ (h : Fin 8) (k : Fin 3), hasB (nI h) (nI k) = true → (∃ m : Fin 8, nI h - shiT k = nI m) ∧ ∀ k' : Fin 3, hasB (nI h - shiT k) (nI k') = true → hasB (nI h) (nI k') = true := by decide +kernel
theorem payT_0 (T : TB) (c p : Nat) (v : Int32) {j : Nat} (d : Nat) (hd : d ≠ c) (h0 : j ≠ 0) : payT T c p v j d = T j d := by
  unfold payT
  by_cases e : j = 8
  · subst e; rw [up_i _ _ _ hd, up_j _ _ _ _ h0]
  · rw [up_j _ _ _ _ e, up_j _ _ _ _ h0]
theorem paysT_o (T : TB) (c k p b : Nat) {j : Nat} (d : Nat) (hd : d ≠ c) (h0 : j ≠ 0) : paysT T c k p b j d = T j d := by
  unfold paysT
  by_cases e : j = 12
  · subst e; rw [up_i _ _ _ hd, payT_0 _ _ _ _ _ hd h0]
  · rw [up_j _ _ _ _ e, payT_0 _ _ _ _ _ hd h0]
theorem paysT_12 (T : TB) (c k p b : Nat) : paysT T c k p b 12 c = T 12 c - shiT k := by
  unfold paysT
  rw [up_s]
/-- a held lock is paid -/
theorem Iv.pays {i : Nat} {T : TB} {C n Z hN c : Nat} (H : Iv i T C n Z hN) (hc : c < C) {k p b : Nat} (hk : k < 3) (hb : hasB (T 12 c) (nI k) = true) : Iv i (paysT T c k p b) C n Z hN := by
  have hE := H.he hc
  have h3 : T 9 c = nI 3 := by
    by_cases e : T 9 c = nI 3
    · exact e
    · rw [(hE.2.1 e).1, ← nI_0, hasB_0 hk] at hb
      cases hb
  refine H.chan hc (fun j x hj => paysT_j _ _ _ _ _ _ (by omega) (by omega) (by omega)) (fun z hz => by rw [paysT_j _ _ _ _ _ _ (by decide) (by decide) (by decide)]; exact H.k4 hz) (fun j d hd hj => paysT_o _ _ _ _ _ _ hd (by omega)) ?_ ?_ (fun q => absurd (by rw [paysT_j _ _ _ _ _ _ (by decide) (by decide) (by decide)]; exact h3) q)
  · have hC := H.ch hc
    unfold IvC at hC ⊢
    have e : ∀ j x, j ≠ 0 → j ≠ 8 → j ≠ 12 → paysT T c k p b j x = T j x := fun j x a1 a2 a3 => paysT_j _ _ _ _ _ _ a1 a2 a3
    rw [e 6 c (by decide) (by decide) (by decide), e 9 c (by decide) (by decide) (by decide), e 10 c (by decide) (by decide) (by decide), e 24 c (by decide) (by decide) (by decide), e 25 c (by decide) (by decide) (by decide), e 26 c (by decide) (by decide) (by decide), e 11 c (by decide) (by decide) (by decide), rkT_congr (fun s _ => e 19 _ (by decide) (by decide) (by decide))]
    refine ⟨hC.1, hC.2.1, hC.2.2.1, hC.2.2.2.1, fun q => ?_, hC.2.2.2.2.2.1, hC.2.2.2.2.2.2.1, fun q => absurd h3 q, hC.2.2.2.2.2.2.2.2.1, hC.2.2.2.2.2.2.2.2.2⟩
    obtain ⟨b', h1, h2, h4⟩ := hC.2.2.2.2.1 q
    exact ⟨b', h1, h2, by rw [e 19 _ (by decide) (by decide) (by decide)]; exact h4⟩
  · unfold IvE at hE ⊢
    have e : ∀ j x, j ≠ 0 → j ≠ 8 → j ≠ 12 → paysT T c k p b j x = T j x := fun j x a1 a2 a3 => paysT_j _ _ _ _ _ _ a1 a2 a3
    rw [e 9 c (by decide) (by decide) (by decide), e 10 c (by decide) (by decide) (by decide), e 13 c (by decide) (by decide) (by decide), e 14 c (by decide) (by decide) (by decide), e 15 c (by decide) (by decide) (by decide), e 16 c (by decide) (by decide) (by decide), e 17 c (by decide) (by decide) (by decide), e 27 c (by decide) (by decide) (by decide), paysT_12]
    obtain ⟨m, hm, hm2⟩ := hE.1
    rw [hm2] at hb
    obtain ⟨⟨m', h5⟩, h6⟩ := bits_sub ⟨m, hm⟩ ⟨k, hk⟩ hb
    refine ⟨?_, fun q => absurd h3 q, fun k' hk' q => ?_, hE.2.2.2.1, hE.2.2.2.2.1, hE.2.2.2.2.2⟩
    · rw [hm2, h5]
      exact ⟨m', m'.isLt, rfl⟩
    · rw [hm2] at q
      have := hE.2.2.1 k' hk' (by rw [hm2]; exact h6 ⟨k', hk'⟩ q)
      unfold lkT at this ⊢
      rw [e 19 _ (by decide) (by decide) (by decide)]
      exact this
/-- what nothing here speaks of: accounts, the height; what is known -/
theorem Iv.frame {i : Nat} {T T' : TB} {C n Z hN : Nat} (H : Iv i T C n Z hN) (ho : ∀ j x, j ≠ 0 → j ≠ 2 → j ≠ 4 → T' j x = T j x) (h4 : ∀ z, z < 16 → okI (T' 4 z) 64) : Iv i T' C n Z hN := by
  have h19 : ∀ x, T' 19 x = T 19 x := fun x => ho 19 x (by decide) (by decide) (by decide)
  refine ⟨?_, ?_, fun s hsn => ⟨(H.st hsn).congr (fun x _ _ => h19 x), ?_⟩, fun d hd => ⟨(H.ch hd).congr (fun j hj => ho j d (by omega) (by omega) (by omega)) (rkT_congr (fun s _ => h19 _)) (fun q => nwT_congr (fun s _ => h19 _) (fun s _ _ => cnt_congr (by rw [ho 9 d (by omega) (by omega) (by omega)]) (ho 6 d (by omega) (by omega) (by omega)) (fun _ => ho 8 d (by omega) (by omega) (by omega)) (fun x _ _ => h19 x))) (fun s _ => h19 _), (H.he hd).congr (fun j hj => ho j d (by omega) (by omega) (by omega)) (fun k hk => h19 _)⟩⟩
  · obtain ⟨g1, g2, g3, g4, g5, g6, g7, g8, g9, _, g11⟩ := H.1
    refine ⟨by rw [ho 5 0 (by omega) (by omega) (by omega)]; exact g1, g2, by rw [ho 18 0 (by omega) (by omega) (by omega)]; exact g3, g4, by rw [ho 3 0 (by omega) (by omega) (by omega)]; exact g5, g6, by rw [ho 20 0 (by omega) (by omega) (by omega)]; exact g7, g8, by rw [ho 1 0 (by omega) (by omega) (by omega)]; exact g9, h4, fun d hd => ?_⟩
    rw [ho 12 d (by omega) (by omega) (by omega), ho 13 d (by omega) (by omega) (by omega)]
    exact g11 d hd
  · obtain ⟨g1, g2⟩ := H.2.1
    refine ⟨fun q hq => ?_, fun q r h1 h2 => ?_⟩
    · rw [ho 21 q (by omega) (by omega) (by omega), ho 22 q (by omega) (by omega) (by omega), ho 23 q (by omega) (by omega) (by omega)]
      exact g1 q hq
    · rw [ho 21 q (by omega) (by omega) (by omega), ho 21 r (by omega) (by omega) (by omega)]
      exact g2 q r h1 h2
  · obtain ⟨d, h1, h2, h3, h5⟩ := H.sr hsn
    refine ⟨d, h1, by rw [h19]; exact h2, by rw [h19, rkT_congr (fun s _ => h19 _)]; exact h3, fun q => ?_⟩
    rw [wholeT_congr h19, ho 8 d (by omega) (by omega) (by omega)]
    rw [ho 9 d (by omega) (by omega) (by omega)] at q
    exact h5 q
/-- more is known -/
theorem Iv.know {i : Nat} {T : TB} {C n Z hN : Nat} (H : Iv i T C n Z hN) (z : Nat) {v : Int32} (hv : okI v 64) : Iv i (up T 4 z v) C n Z hN := by
  refine H.frame (fun j x _ _ h => up_j _ _ _ _ h) (fun y hy => ?_)
  by_cases e : y = z
  · subst e; rw [up_s]; exact hv
  · rw [up_i _ _ _ e]; exact H.k4 hy
theorem Iv.clm {i : Nat} {T : TB} {C n Z hN c : Nat} (H : Iv i T C n Z hN) (hc : c < C) {k p b : Nat} (hk : k < 3) (hb : hasB (T 12 c) (nI k) = true) : Iv i (clmT T c b k p) C n Z hN := by
  unfold clmT
  exact (H.know _ (okI_nI (by decide))).pays hc hk hb
theorem Iv.high {i : Nat} {T : TB} {C n Z hN : Nat} (H : Iv i T C n Z hN) (v : Int32) : Iv i (up T 2 0 v) C n Z hN :=
  H.frame (fun j x _ h _ => up_j _ _ _ _ h) (fun z hz => by rw [up_j _ _ _ _ (by decide)]; exact H.k4 hz)
theorem winT_o (T : TB) (c p : Nat) {j : Nat} (d : Nat) (hd : d ≠ c) (h0 : j ≠ 0) : winT T c p j d = T j d := by
  unfold winT up
  rw [if_neg (fun e => hd e.2), if_neg (fun e => hd e.2), if_neg (fun e => hd e.2), if_neg (fun e => hd e.2), if_neg (fun e => h0 e.1)]
theorem winT_k (T : TB) (c p : Nat) {j : Nat} (x : Nat) (h : j ≠ 0 ∧ j ≠ 8 ∧ j ≠ 13 ∧ j ≠ 14 ∧ j ≠ 27) : winT T c p j x = T j x := by
  unfold winT
  rw [up_j _ _ _ _ h.2.2.2.2, up_j _ _ _ _ h.2.2.2.1, up_j _ _ _ _ h.2.2.1, up_j _ _ _ _ h.2.1, up_j _ _ _ _ h.1]
theorem winT_13 (T : TB) (c p : Nat) : winT T c p 13 c = 0 := by
  unfold winT
  rw [up_j _ _ _ _ (by decide), up_j _ _ _ _ (by decide), up_s, nI_0]
theorem winT_27 (T : TB) (c p : Nat) : winT T c p 27 c = 0 := by
  unfold winT
  rw [up_s]
theorem Iv.ph3 {i : Nat} {T : TB} {C n Z hN c : Nat} (H : Iv i T C n Z hN) (hc : c < C) (h : ¬ T 13 c = 0) : T 9 c = nI 3 := by
  by_cases e : T 9 c = nI 3
  · exact e
  · exact absurd ((H.he hc).2.1 e).2 h
theorem IvC.p3 {T T' : TB} {n c : Nat} (h3 : T 9 c = nI 3) (hj : ∀ j, j = 6 ∨ (9 ≤ j ∧ j ≤ 11) ∨ (24 ≤ j ∧ j ≤ 26) → T' j c = T j c) (h19 : ∀ x, T' 19 x = T 19 x) (H : IvC T n c) : IvC T' n c := by
  unfold IvC at H ⊢
  rw [hj 6 (by omega), hj 9 (by omega), hj 10 (by omega), hj 24 (by omega), hj 25 (by omega), hj 26 (by omega), hj 11 (by omega), rkT_congr (fun s _ => h19 _)]
  refine ⟨H.1, H.2.1, H.2.2.1, H.2.2.2.1, fun q => ?_, H.2.2.2.2.2.1, H.2.2.2.2.2.2.1, fun q => absurd h3 q, H.2.2.2.2.2.2.2.2.1, H.2.2.2.2.2.2.2.2.2⟩
  obtain ⟨b', h1, h2, h4⟩ := H.2.2.2.2.1 q
  exact ⟨b', h1, h2, by rw [h19]; exact h4⟩
/-- a held game is over -/
theorem Iv.win {i : Nat} {T : TB} {C n Z hN c : Nat} (H : Iv i T C n Z hN) (hc : c < C) {p : Nat} (h13 : ¬ T 13 c = 0) : Iv i (winT T c p) C n Z hN := by
  have hE := H.he hc
  have h3 := H.ph3 hc h13
  refine H.chan hc (fun j x hj => winT_k _ _ _ _ (by omega)) (fun z hz => by rw [winT_k _ _ _ _ (by omega)]; exact H.k4 hz) (fun j d hd hj => winT_o _ _ _ _ hd (by omega)) ?_ ?_ (fun q => absurd (by rw [winT_k _ _ _ _ (by omega)]; exact h3) q)
  · exact (H.ch hc).p3 h3 (fun j hj => winT_k _ _ _ _ (by omega)) (fun x => winT_k _ _ _ _ (by omega))
  · unfold IvE at hE ⊢
    rw [winT_k _ _ _ _ (show 9 ≠ 0 ∧ 9 ≠ 8 ∧ 9 ≠ 13 ∧ 9 ≠ 14 ∧ 9 ≠ 27 by decide), winT_k _ _ _ _ (show 10 ≠ 0 ∧ 10 ≠ 8 ∧ 10 ≠ 13 ∧ 10 ≠ 14 ∧ 10 ≠ 27 by decide), winT_k _ _ _ _ (show 12 ≠ 0 ∧ 12 ≠ 8 ∧ 12 ≠ 13 ∧ 12 ≠ 14 ∧ 12 ≠ 27 by decide), winT_13, winT_27]
    refine ⟨hE.1, fun q => absurd h3 q, fun k hk q => ?_, ⟨Int32.le_refl _, fun q => absurd rfl q⟩, fun q => absurd rfl q, fun _ => rfl⟩
    unfold lkT
    rw [winT_k _ _ _ _ (by omega)]
    exact hE.2.2.1 k hk q
/-- the same, the heap aside -/
theorem Iv.heap {i : Nat} {T : TB} {C n Z hN c : Nat} (H : Iv i T C n Z hN) (hc : c < C) {v : Int32} (hv : T 13 c ≠ 0 → ∃ k, 0 < k ∧ k ≤ 20 ∧ v = nI k) : Iv i (up T 14 c v) C n Z hN := by
  have hE := H.he hc
  refine H.chan hc (fun j x hj => up_j _ _ _ _ (by omega)) (fun z hz => by rw [up_j _ _ _ _ (by omega)]; exact H.k4 hz) (fun j d hd hj => ?_) ?_ ?_ (fun q => ⟨up_j _ _ _ _ (by omega), by rw [up_j _ _ _ _ (by omega)] at q; exact q⟩)
  · unfold up
    rw [if_neg (fun e => hd e.2)]
  · exact (H.ch hc).congr (fun j hj => up_j _ _ _ _ (by omega)) (rkT_congr (fun s _ => up_j _ _ _ _ (by omega))) (fun q => nwT_congr (fun s _ => up_j _ _ _ _ (by omega)) (fun s _ _ => cnt_congr (by rw [up_j _ _ _ _ (by omega)]) (up_j _ _ _ _ (by omega)) (fun _ => up_j _ _ _ _ (by omega)) (fun x _ _ => up_j _ _ _ _ (by omega)))) (fun s _ => up_j _ _ _ _ (by omega))
  · unfold IvE at hE ⊢
    rw [up_j T c c v (show 9 ≠ 14 by decide), up_j T c c v (show 10 ≠ 14 by decide), up_j T c c v (show 12 ≠ 14 by decide), up_j T c c v (show 13 ≠ 14 by decide), up_j T c c v (show 15 ≠ 14 by decide), up_j T c c v (show 16 ≠ 14 by decide), up_j T c c v (show 17 ≠ 14 by decide), up_j T c c v (show 27 ≠ 14 by decide), up_s]
    refine ⟨hE.1, hE.2.1, fun k hk q => ?_, ⟨hE.2.2.2.1.1, fun q => ⟨(hE.2.2.2.1.2 q).1, (hE.2.2.2.1.2 q).2.1, hv q⟩⟩, hE.2.2.2.2.1, hE.2.2.2.2.2⟩
    unfold lkT
    rw [up_j _ _ _ _ (by omega)]
    exact hE.2.2.1 k hk q
/-- the turn goes on -/
def trnT (T : TB) (c : Nat) (v : Int32) : TB := up (up (up (up (up T 14 c v) 15 c (T 16 c)) 16 c (T 15 c)) 17 c (T 2 0 + T 7 c)) 27 c (T 2 0 + T 7 c)
theorem trnT_k (T : TB) (c : Nat) (v : Int32) {j : Nat} (x : Nat) (h : (j < 14 ∨ 17 < j) ∧ j ≠ 27) : trnT T c v j x = T j x := by
  unfold trnT
  rw [up_j _ _ _ _ (by omega), up_j _ _ _ _ (by omega), up_j _ _ _ _ (by omega), up_j _ _ _ _ (by omega), up_j _ _ _ _ (by omega)]
theorem trnT_o (T : TB) (c : Nat) (v : Int32) (j : Nat) (d : Nat) (hd : d ≠ c) : trnT T c v j d = T j d := by
  unfold trnT up
  rw [if_neg (fun e => hd e.2), if_neg (fun e => hd e.2), if_neg (fun e => hd e.2), if_neg (fun e => hd e.2), if_neg (fun e => hd e.2)]
theorem Iv.turn {i : Nat} {T : TB} {C n Z hN c : Nat} (H : Iv i T C n Z hN) (hc : c < C) (h13 : ¬ T 13 c = 0) {v : Int32} (hv : ∃ k, 0 < k ∧ k ≤ 20 ∧ v = nI k) : Iv i (trnT T c v) C n Z hN := by
  have hE := H.he hc
  have h3 := H.ph3 hc h13
  refine H.chan hc (fun j x hj => trnT_k _ _ _ _ (by omega)) (fun z hz => by rw [trnT_k _ _ _ _ (by omega)]; exact H.k4 hz) (fun j d hd hj => trnT_o _ _ _ _ _ hd) ?_ ?_ (fun q => absurd (by rw [trnT_k _ _ _ _ (by omega)]; exact h3) q)
  · exact (H.ch hc).p3 h3 (fun j hj => trnT_k _ _ _ _ (by omega)) (fun x => trnT_k _ _ _ _ (by omega))
  · unfold IvE at hE ⊢
    have e14 : trnT T c v 14 c = v := by simp [trnT, up]
    have e15 : trnT T c v 15 c = T 16 c := by simp [trnT, up]
    have e16 : trnT T c v 16 c = T 15 c := by simp [trnT, up]
    have e17 : trnT T c v 17 c = T 2 0 + T 7 c := by simp [trnT, up]
    have e27 : trnT T c v 27 c = T 2 0 + T 7 c := by simp [trnT, up]
    rw [trnT_k _ _ _ _ (show (9 < 14 ∨ 17 < 9) ∧ 9 ≠ 27 by decide), trnT_k _ _ _ _ (show (10 < 14 ∨ 17 < 10) ∧ 10 ≠ 27 by decide), trnT_k _ _ _ _ (show (12 < 14 ∨ 17 < 12) ∧ 12 ≠ 27 by decide), trnT_k _ _ _ _ (show (13 < 14 ∨ 17 < 13) ∧ 13 ≠ 27 by decide), e14, e15, e16, e17, e27]
    refine ⟨hE.1, hE.2.1, fun k hk q => ?_, ⟨hE.2.2.2.1.1, fun q => ⟨(hE.2.2.2.1.2 q).2.1, (hE.2.2.2.1.2 q).1, hv⟩⟩, fun _ => rfl, fun q => absurd q h13⟩
    unfold lkT
    rw [trnT_k _ _ _ _ (by omega)]
    exact hE.2.2.1 k hk q
theorem heap_sub {T : TB} {c t k : Nat} (hk : T 14 c = nI k) (hk20 : k ≤ 20) (ht : t ≤ k) : T 14 c - nI t = nI (k - t) := by
  rw [hk, pk_sub ht]
theorem Iv.stp {i : Nat} {T : TB} {C n Z hN c t : Nat} (H : Iv i T C n Z hN) (hc : c < C) (h13 : ¬ T 13 c = 0) (ht : ∀ k, k ≤ 20 → T 14 c = nI k → t ≤ k) : Iv i (stpT T c (nI t)) C n Z hN := by
  obtain ⟨_, _, k, hk0, hk20, hk⟩ := (H.he hc).2.2.2.1.2 h13
  have htk := ht k hk20 hk
  have e := heap_sub hk hk20 htk
  unfold stpT
  split
  · rename_i q
    -- the heap is 0 there, and then the game is over
    refine H.chan hc (fun j x hj => ?_) (fun z hz => ?_) (fun j d hd hj => ?_) ?_ ?_ (fun q => absurd ?_ q)
    · rw [winT_k _ _ _ _ (by omega), up_j _ _ _ _ (by omega)]
    · rw [winT_k _ _ _ _ (by omega), up_j _ _ _ _ (by omega)]; exact H.k4 hz
    · rw [winT_o _ _ _ _ hd (by omega)]
      unfold up
      rw [if_neg (fun e => hd e.2)]
    · exact (H.ch hc).p3 (H.ph3 hc h13) (fun j hj => by rw [winT_k _ _ _ _ (by omega), up_j _ _ _ _ (by omega)]) (fun x => by rw [winT_k _ _ _ _ (by omega), up_j _ _ _ _ (by omega)])
    · have hE := H.he hc
      unfold IvE at hE ⊢
      rw [winT_k _ _ _ _ (show 9 ≠ 0 ∧ 9 ≠ 8 ∧ 9 ≠ 13 ∧ 9 ≠ 14 ∧ 9 ≠ 27 by decide), winT_k _ _ _ _ (show 10 ≠ 0 ∧ 10 ≠ 8 ∧ 10 ≠ 13 ∧ 10 ≠ 14 ∧ 10 ≠ 27 by decide), winT_k _ _ _ _ (show 12 ≠ 0 ∧ 12 ≠ 8 ∧ 12 ≠ 13 ∧ 12 ≠ 14 ∧ 12 ≠ 27 by decide), winT_13, winT_27, up_j _ _ _ _ (by decide), up_j _ _ _ _ (by decide), up_j _ _ _ _ (by decide)]
      refine ⟨hE.1, fun q => absurd (H.ph3 hc h13) q, fun k hk q => ?_, ⟨Int32.le_refl _, fun q => absurd rfl q⟩, fun q => absurd rfl q, fun _ => rfl⟩
      unfold lkT
      rw [winT_k _ _ _ _ (by omega), up_j _ _ _ _ (by omega)]
      exact hE.2.2.1 k hk q
    · rw [winT_k _ _ _ _ (by omega), up_j _ _ _ _ (by omega)]
      exact H.ph3 hc h13
  · rename_i q
    refine H.turn hc h13 ⟨k - t, ?_, by omega, e⟩
    rcases Nat.eq_zero_or_pos (k - t) with z | z
    · rw [e, z] at q
      exact absurd nI_0 q
    · exact z
