/-! what holds stays: sums are taken out; one more call -/
theorem Iv.succ {i : Nat} {T : TB} {C n Z hN : Nat} (H : Iv i T C n Z hN) : Iv (i + 1) T C n Z hN := by
  refine ⟨H.1, H.2.1, fun s hsn => ⟨H.st hsn, ?_⟩, H.2.2.2⟩
  obtain ⟨d, h1, h2, h3, h5⟩ := H.sr hsn
  refine ⟨d, h1, h2, h3, fun q => ⟨(h5 q).1, ?_⟩⟩
  have := (h5 q).2
  omega
theorem toI_nI {x : Int32} (h : 0 ≤ x.toInt) : ∃ d : Nat, x = nI d ∧ x.toInt = d ∧ d < 2 ^ 31 := by
  obtain ⟨j, h1, h2⟩ := nI_of (x := x) (fun q => by have := Int32.lt_iff_toInt_lt.mp q; rw [show (0 : Int32).toInt = 0 from rfl] at this; omega)
  exact ⟨j, h2, by rw [h2, nI_toInt h1], h1⟩
theorem poT_v (T : TB) (s : Nat) {m : Nat} (hm : m ≤ 6) : (∀ p, p < 6 → poT T s m 19 (35 * s + 4 + p) = if p < m then T 19 (35 * s + 4 + p) - T 19 (35 * s + 10 + p) else T 19 (35 * s + 4 + p)) ∧ (∀ p, p < 6 → poT T s m 19 (35 * s + 10 + p) = if p < m then nI 0 else T 19 (35 * s + 10 + p)) ∧ (∀ j x, j ≠ 0 → ¬ (j = 19 ∧ 35 * s + 4 ≤ x ∧ x < 35 * s + 16) → poT T s m j x = T j x) := by
  induction m with
  | zero => exact ⟨fun p _ => (if_neg (by omega)).symm, fun p _ => (if_neg (by omega)).symm, fun j x _ _ => rfl⟩
  | succ m ih =>
    obtain ⟨i1, i2, i3⟩ := ih (by omega)
    have e : poT T s (m + 1) = po1 (poT T s m) s m := rfl
    rw [e]
    unfold po1
    refine ⟨fun p hp => ?_, fun p hp => ?_, fun j x h1 h2 => ?_⟩
    · rw [up_i _ _ _ (by omega)]
      by_cases q : p = m
      · subst q
        rw [up_s, if_pos (by omega), i1 p hp, i2 p hp, if_neg (by omega), if_neg (by omega)]
      · rw [up_i _ _ _ (by omega), up_j _ _ _ _ (by decide), i1 p hp]
        by_cases q2 : p < m
        · rw [if_pos q2, if_pos (by omega)]
        · rw [if_neg q2, if_neg (by omega)]
    · by_cases q : p = m
      · subst q
        rw [up_s, if_pos (by omega)]
      · rw [up_i _ _ _ (by omega), up_i _ _ _ (by omega), up_j _ _ _ _ (by decide), i2 p hp]
        by_cases q2 : p < m
        · rw [if_pos q2, if_pos (by omega)]
        · rw [if_neg q2, if_neg (by omega)]
    · rw [up_x (by omega), up_x (by omega), up_j _ _ _ _ h1, i3 j x h1 h2]
/-- all that is wanted, taken out of the state and of the sum -/
def tkT (T : TB) (c s : Nat) : TB := up (up (poT T s 6) 8 c ((poT T s 6) 8 c - outT T s)) 19 (35 * s + 3) (nI 0)
theorem tkT_v (T : TB) (c s : Nat) : (∀ p, p < 6 → tkT T c s 19 (35 * s + 4 + p) = T 19 (35 * s + 4 + p) - T 19 (35 * s + 10 + p)) ∧ (∀ p, p < 6 → tkT T c s 19 (35 * s + 10 + p) = nI 0) ∧ tkT T c s 19 (35 * s + 3) = nI 0 ∧ tkT T c s 8 c = T 8 c - outT T s ∧ (∀ j x, j ≠ 0 → ¬ (j = 8 ∧ x = c) → ¬ (j = 19 ∧ 35 * s + 3 ≤ x ∧ x < 35 * s + 16) → tkT T c s j x = T j x) := by
  obtain ⟨i1, i2, i3⟩ := poT_v T s (Nat.le_refl 6)
  unfold tkT
  refine ⟨fun p hp => ?_, fun p hp => ?_, up_s _ _ _ _, ?_, fun j x h1 h2 h3 => ?_⟩
  · rw [up_i _ _ _ (by omega), up_j _ _ _ _ (by decide), i1 p hp, if_pos hp]
  · rw [up_i _ _ _ (by omega), up_j _ _ _ _ (by decide), i2 p hp, if_pos hp]
  · rw [up_j _ _ _ _ (by decide), up_s, i3 8 c (by decide) (by omega)]
  · rw [up_x (by omega), show up (poT T s 6) 8 c _ j x = _ from if_neg h2, i3 j x h1 (by omega)]
theorem whole_tk (T : TB) (c s : Nat) : wholeT (tkT T c s) s = wholeT T s - outT T s := by
  obtain ⟨i1, i2, i3, i4, i5⟩ := tkT_v T c s
  unfold wholeT outT
  rw [i5 19 (35 * s + 31) (by decide) (by omega) (by omega), i1 0 (by decide), i1 1 (by decide), i1 2 (by decide), i1 3 (by decide), i1 4 (by decide), i1 5 (by decide), i5 19 (35 * s + 16 + 5 * 0 + 0) (by decide) (by omega) (by omega), i5 19 (35 * s + 16 + 5 * 1 + 0) (by decide) (by omega) (by omega), i5 19 (35 * s + 16 + 5 * 2 + 0) (by decide) (by omega) (by omega), nI_0]
  grind
theorem out_nI {T : TB} {Z s : Nat} (H : IvS T Z s) : ∃ K, K ≤ 360000 ∧ outT T s = nI K := by
  have key : ∀ p, p < 6 → ∃ k, k ≤ 60000 ∧ T 19 (35 * s + 10 + p) = nI k := fun p hp => by
    obtain ⟨h0, h1⟩ := H.2.2.2.2.2 p hp
    exact nI_of2 (M := nI 60000) (nI_toInt (by omega)) (Int32.not_lt.mpr h0) h1
  obtain ⟨k0, a0, b0⟩ := key 0 (by decide)
  obtain ⟨k1, a1, b1⟩ := key 1 (by decide)
  obtain ⟨k2, a2, b2⟩ := key 2 (by decide)
  obtain ⟨k3, a3, b3⟩ := key 3 (by decide)
  obtain ⟨k4, a4, b4⟩ := key 4 (by decide)
  obtain ⟨k5, a5, b5⟩ := key 5 (by decide)
  refine ⟨0 + k0 + k1 + k2 + k3 + k4 + k5, by omega, ?_⟩
  unfold outT
  rw [b0, b1, b2, b3, b4, b5, nI_add, nI_add, nI_add, nI_add, nI_add, nI_add]
theorem Iv.tk {i : Nat} {T : TB} {C n Z hN S c : Nat} (H : Iv i T C n Z hN) (hi : i ≤ 100) (hS : S < n) (hc : c < C) (hc0 : T 19 (35 * S + 0) = nI c) (h9 : T 9 c = nI 1) (hnw : nwT T c n = nI S) (ho : ¬ outT T S = 0) : Iv (i + 1) (tkT T c S) C n Z hN := by
  have h64 := H.n64
  have hC8 := H.C8
  obtain ⟨K, hK, hKo⟩ := out_nI (H.st hS)
  have hKp : 0 < K := by
    rcases Nat.eq_zero_or_pos K with e | e
    · rw [hKo, e] at ho
      exact absurd nI_0 ho
    · exact e
  obtain ⟨i1, i2, i3, i4, i5⟩ := tkT_v T c S
  have h93 := ph13 h9
  have hj : ∀ j x, j ≠ 0 → j ≠ 8 → j ≠ 19 → tkT T c S j x = T j x := fun j x a b d => i5 j x a (by omega) (by omega)
  have hr : ∀ s x, s ≠ S → 35 * s ≤ x → x < 35 * s + 35 → tkT T c S 19 x = T 19 x := fun s x h h1 h2 => i5 19 x (by decide) (by omega) (by omega)
  have h0 : ∀ s, tkT T c S 19 (35 * s + 0) = T 19 (35 * s + 0) := fun s => i5 19 _ (by decide) (by omega) (by omega)
  have hwh : ∀ s, s ≠ S → wholeT (tkT T c S) s = wholeT T s := fun s e => by
    unfold wholeT
    rw [hr s _ e (by omega) (by omega), hr s _ e (by omega) (by omega), hr s _ e (by omega) (by omega), hr s _ e (by omega) (by omega), hr s _ e (by omega) (by omega), hr s _ e (by omega) (by omega), hr s _ e (by omega) (by omega), hr s _ e (by omega) (by omega), hr s _ e (by omega) (by omega), hr s _ e (by omega) (by omega)]
  have hD : ∀ s, s < n → s ≠ S → T 19 (35 * s + 0) = nI c → ∃ d : Nat, d ≤ 400000 * i ∧ wholeT (tkT T c S) s - tkT T c S 8 c = nI (d + K) := fun s hsn e hsc => by
    obtain ⟨d, h1, h2, h3, h5⟩ := H.sr hsn
    rw [hsc, nI_eq (by omega) (by omega)] at h2
    subst h2
    obtain ⟨q1, q2⟩ := h5 h93
    obtain ⟨d0, g1, g2, g3⟩ := toI_nI q1
    refine ⟨d0, by omega, ?_⟩
    rw [hwh s e, i4, hKo, ← nI_add, ← g1]
    grind
  have hcS := (nwT_ch h64 (by omega) hnw).2.2
  have hcn : cnt (tkT T c S) c S = true := by
    obtain ⟨g1, g2⟩ := cnt_sg hcS
    unfold cnt
    rw [hj 9 c (by decide) (by decide) (by decide), hj 6 c (by decide) (by decide) (by decide), i5 19 (35 * S + 2) (by decide) (by omega) (by omega), whole_tk, i4, g1, g2, decide_eq_false h93, decide_eq_true rfl, decide_eq_true rfl]
    rfl
  have hnw' : nwT (tkT T c S) c n = nI S := by
    refine nwT_is hS (by rw [h0]; exact hc0) hcn (fun s' h1 h2 h3 => ?_)
    rw [h0] at h3
    obtain ⟨d, g1, g2⟩ := hD s' h2 (by omega) h3
    unfold cnt
    rw [decide_eq_false (p := wholeT (tkT T c S) s' = tkT T c S 8 c) (fun e => by
      rw [e, Int32.sub_self] at g2
      exact nI_ne0 (n := d + K) (by omega) (by omega) g2.symm), Bool.and_false, Bool.and_false]
  refine ⟨?_, ?_, fun s hsn => ⟨?_, ?_⟩, fun d hd => ⟨?_, ?_⟩⟩
  · obtain ⟨g1, g2, g3, g4, g5, g6, g7, g8, g9, g10, g11⟩ := H.1
    refine ⟨by rw [hj 5 0 (by omega) (by omega) (by omega)]; exact g1, g2, by rw [hj 18 0 (by omega) (by omega) (by omega)]; exact g3, g4, by rw [hj 3 0 (by omega) (by omega) (by omega)]; exact g5, g6, by rw [hj 20 0 (by omega) (by omega) (by omega)]; exact g7, g8, by rw [hj 1 0 (by omega) (by omega) (by omega)]; exact g9, fun z hz => by rw [hj 4 z (by omega) (by omega) (by omega)]; exact g10 z hz, fun d hd => ?_⟩
    rw [hj 12 d (by omega) (by omega) (by omega), hj 13 d (by omega) (by omega) (by omega)]
    exact g11 d hd
  · obtain ⟨g1, g2⟩ := H.2.1
    refine ⟨fun q hq => ?_, fun q r h1 h2 => ?_⟩
    · rw [hj 21 q (by omega) (by omega) (by omega), hj 22 q (by omega) (by omega) (by omega), hj 23 q (by omega) (by omega) (by omega)]
      exact g1 q hq
    · rw [hj 21 q (by omega) (by omega) (by omega), hj 21 r (by omega) (by omega) (by omega)]
      exact g2 q r h1 h2
  · by_cases e : s = S
    · subst e
      have hS0 := H.st hsn
      unfold IvS at hS0 ⊢
      have hl : ∀ k, k < 3 → ∀ j, j < 5 → lkT (tkT T c s) s k j = lkT T s k j := fun k hk j hj => i5 19 _ (by decide) (by omega) (by omega)
      refine ⟨?_, ?_, fun k hk => ?_, ?_, ?_, fun p hp => ?_⟩
      · rw [i5 19 _ (by decide) (by omega) (by omega)]; exact hS0.1
      · rw [i3]; exact okI_nI (by decide)
      · unfold IvL
        rw [hl k hk 0 (by decide), hl k hk 1 (by decide), hl k hk 2 (by decide), hl k hk 3 (by decide)]
        exact hS0.2.2.1 k hk
      · rw [i5 19 _ (by decide) (by omega) (by omega), i5 19 _ (by decide) (by omega) (by omega), i5 19 _ (by decide) (by omega) (by omega), i5 19 _ (by decide) (by omega) (by omega)]; exact hS0.2.2.2.1
      · rw [i5 19 _ (by decide) (by omega) (by omega), i5 19 _ (by decide) (by omega) (by omega), i5 19 _ (by decide) (by omega) (by omega), i5 19 _ (by decide) (by omega) (by omega)]; exact hS0.2.2.2.2.1
      · rw [i2 p hp]
        exact ⟨by decide, nI_le (by omega) (by omega)⟩
    · exact (H.st hsn).congr (fun x h1 h2 => hr s x e h1 h2)
  · obtain ⟨d, h1, h2, h3, h5⟩ := H.sr hsn
    refine ⟨d, h1, by rw [h0]; exact h2, by rw [i5 19 (35 * s + 1) (by decide) (by omega) (by omega), rkT_congr (fun s _ => h0 s)]; exact h3, fun q => ?_⟩
    rw [hj 9 d (by decide) (by decide) (by decide)] at q
    by_cases e : s = S
    · subst e
      rw [hc0, nI_eq (by omega) (by omega)] at h2
      subst h2
      rw [whole_tk, i4, show wholeT T s - outT T s - (T 8 c - outT T s) = wholeT T s - T 8 c by grind]
      have := h5 q
      omega
    · by_cases e2 : d = c
      · subst e2
        obtain ⟨d0, g1, g2⟩ := hD s hsn e h2
        rw [g2, nI_toInt (by omega)]
        omega
      · rw [hwh s e, i5 8 d (by decide) (by omega) (by omega)]
        have := h5 q
        omega
  · by_cases e : d = c
    · subst e
      have hC := H.ch hd
      unfold IvC at hC ⊢
      rw [hj 6 d (by decide) (by decide) (by decide), hj 9 d (by decide) (by decide) (by decide), hj 10 d (by decide) (by decide) (by decide), hj 24 d (by decide) (by decide) (by decide), hj 25 d (by decide) (by decide) (by decide), hj 26 d (by decide) (by decide) (by decide), hj 11 d (by decide) (by decide) (by decide), rkT_congr (fun s _ => h0 s), hnw']
      refine ⟨hC.1, hC.2.1, hC.2.2.1, hC.2.2.2.1, fun q => absurd h9 q, hC.2.2.2.2.2.1, hC.2.2.2.2.2.2.1, fun q => ⟨?_, S, hS, rfl⟩, hC.2.2.2.2.2.2.2.2.1, hC.2.2.2.2.2.2.2.2.2⟩
      rw [(hC.2.2.2.2.2.2.2.1 q).1, hnw]
    · refine (H.ch hd).congr (fun j hjj => i5 j d (by omega) (by omega) (by omega)) (rkT_congr (fun s _ => h0 s)) (fun q => nwT_congr (fun s _ => h0 s) (fun s hs hsd => cnt_congr (by rw [hj 9 d (by decide) (by decide) (by decide)]) (hj 6 d (by decide) (by decide) (by decide)) (fun _ => i5 8 d (by decide) (by omega) (by omega)) (fun x h1 h2 => hr s x (fun es => ?_) h1 h2))) (fun s _ => h0 s)
      subst es
      rw [hc0, nI_eq (by omega) (by omega)] at hsd
      exact e hsd.symm
  · have hE := H.he hd
    by_cases e3 : T 9 d = nI 3
    · refine hE.congr (fun j hjj => hj j d (by omega) (by omega) (by omega)) (fun k hk => ?_)
      have hb : ix (T 10 d) ≠ S := fun e => by
        obtain ⟨b, h1, h2, h3⟩ := (H.ch hd).2.2.2.2.1 (by rw [e3]; decide)
        rw [h2, ix_nI (by omega)] at e
        subst e
        rw [hc0, nI_eq (by omega) (by omega)] at h3
        rw [h3] at h93
        exact h93 e3
      exact hr _ _ hb (by omega) (by omega)
    · unfold IvE at hE ⊢
      rw [hj 9 d (by decide) (by decide) (by decide), hj 10 d (by decide) (by decide) (by decide), hj 12 d (by decide) (by decide) (by decide), hj 13 d (by decide) (by decide) (by decide), hj 14 d (by decide) (by decide) (by decide), hj 15 d (by decide) (by decide) (by decide), hj 16 d (by decide) (by decide) (by decide), hj 17 d (by decide) (by decide) (by decide), hj 27 d (by decide) (by decide) (by decide)]
      refine ⟨hE.1, hE.2.1, fun k hk q => ?_, hE.2.2.2.1, hE.2.2.2.2.1, hE.2.2.2.2.2⟩
      rw [(hE.2.1 e3).1, hasB_z hk] at q
      cases q
theorem Iv.to {i : Nat} {T : TB} {C n Z hN S c : Nat} (H : Iv i T C n Z hN) (hi : i ≤ 100) (hS : S < n) (hc : c < C) (hc0 : T 19 (35 * S + 0) = nI c) (h9 : T 9 c = nI 1) (hnw : nwT T c n = nI S) : Iv (i + 1) (toT T c S) C n Z hN := by
  unfold toT
  split
  · exact (H.end_ hc hS hc0).succ
  · rename_i q
    exact H.tk hi hS hc hc0 h9 hnw q
