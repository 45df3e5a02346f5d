/-! what holds stays: new states, new channels -/
theorem zrT_v (T : TB) (n : Nat) {k : Nat} : (∀ x, x < k → zrT T n k 19 (35 * n + x) = nI 0) ∧ ∀ y, ¬ (35 * n ≤ y ∧ y < 35 * n + k) → zrT T n k 19 y = T 19 y := by
  induction k with
  | zero => exact ⟨fun x h => by omega, fun y _ => rfl⟩
  | succ k ih =>
    refine ⟨fun x h => ?_, fun y h => ?_⟩
    · rw [zrT]
      by_cases e : x = k
      · subst e; rw [up_s]
      · rw [up_i _ _ _ (by omega)]
        exact ih.1 x (by omega)
    · rw [zrT, up_i _ _ _ (by omega)]
      exact ih.2 y (by omega)
theorem blkT_v (T : TB) (c n : Nat) : blkT T c n 19 (35 * n + 0) = nI c ∧ blkT T c n 19 (35 * n + 1) = rkT T c n ∧ blkT T c n 19 (35 * n + 33) = -1 ∧ blkT T c n 19 (35 * n + 34) = -1 ∧ (∀ x, 2 ≤ x → x < 33 → blkT T c n 19 (35 * n + x) = nI 0) ∧ (∀ y, ¬ (35 * n ≤ y ∧ y < 35 * n + 35) → blkT T c n 19 y = T 19 y) ∧ blkT T c n 18 0 = nI (n + 1) ∧ blkT T c n 24 c = T 24 c + nI 1 ∧ ∀ j x, j ≠ 19 → ¬ (j = 18 ∧ x = 0) → ¬ (j = 24 ∧ x = c) → blkT T c n j x = T j x := by
  obtain ⟨z1, z2⟩ := zrT_v T n (k := 35)
  unfold blkT
  refine ⟨?_, ?_, ?_, ?_, fun x h1 h2 => ?_, fun y h => ?_, ?_, up_s _ _ _ _, fun j x h1 h2 h3 => ?_⟩
  · rw [up_j _ _ _ _ (by decide), up_j _ _ _ _ (by decide), up_i _ _ _ (by omega), up_i _ _ _ (by omega), up_i _ _ _ (by omega), up_s]
  · rw [up_j _ _ _ _ (by decide), up_j _ _ _ _ (by decide), up_i _ _ _ (by omega), up_i _ _ _ (by omega), up_s]
  · rw [up_j _ _ _ _ (by decide), up_j _ _ _ _ (by decide), up_i _ _ _ (by omega), up_s]
  · rw [up_j _ _ _ _ (by decide), up_j _ _ _ _ (by decide), up_s]
  · rw [up_j _ _ _ _ (by decide), up_j _ _ _ _ (by decide), up_i _ _ _ (by omega), up_i _ _ _ (by omega), up_i _ _ _ (by omega), up_i _ _ _ (by omega)]
    exact z1 x (by omega)
  · rw [up_j _ _ _ _ (by decide), up_j _ _ _ _ (by decide), up_i _ _ _ (by omega), up_i _ _ _ (by omega), up_i _ _ _ (by omega), up_i _ _ _ (by omega)]
    exact z2 y h
  · rw [up_j _ _ _ _ (by decide), up_s]
  · rw [show up _ 24 c _ j x = _ from if_neg h3, show up _ 18 0 _ j x = _ from if_neg h2, up_j _ _ _ _ h1, up_j _ _ _ _ h1, up_j _ _ _ _ h1, up_j _ _ _ _ h1, zrT_j _ _ _ _ h1]
theorem inR_mid {i : Nat} (hi : i < 31) : inR (nI (4 + i)) (nI 10) (nI 15) = decide (6 ≤ i ∧ i ≤ 11) := by
  have key : ∀ i : Fin 31, inR (nI (4 + i)) (nI 10) (nI 15) = decide (6 ≤ i.val ∧ i.val ≤ 11) := by decide +kernel
  exact key ⟨i, hi⟩
theorem cpT_v (T : TB) {n s : Nat} (hs : s < n) {k : Nat} (hk : k ≤ 31) : (∀ i, i < k → cpT T n s k 19 (35 * n + (4 + i)) = if 6 ≤ i ∧ i ≤ 11 then nI 0 else T 19 (35 * s + (4 + i))) ∧ ∀ y, ¬ (35 * n + 4 ≤ y ∧ y < 35 * n + 4 + k) → cpT T n s k 19 y = T 19 y := by
  induction k with
  | zero => exact ⟨fun x h => by omega, fun y _ => rfl⟩
  | succ k ih =>
    obtain ⟨i1, i2⟩ := ih (by omega)
    refine ⟨fun i h => ?_, fun y h => ?_⟩
    · rw [cpT]
      by_cases e : i = k
      · subst e
        rw [up_s, inR_mid (by omega), i2 (35 * s + (4 + i)) (by omega)]
        by_cases q : 6 ≤ i ∧ i ≤ 11
        · rw [if_pos q, if_pos (decide_eq_true q)]
        · rw [if_neg q, if_neg (by rw [decide_eq_false q]; decide)]
      · rw [up_i _ _ _ (by omega)]
        exact i1 i (by omega)
    · rw [cpT, up_i _ _ _ (by omega)]
      exact i2 y (by omega)
theorem copT_v (T : TB) (c : Nat) {n s : Nat} (hs : s < n) : copT T c n s 19 (35 * n + 0) = nI c ∧ copT T c n s 19 (35 * n + 1) = rkT T c n ∧ copT T c n s 19 (35 * n + 2) = nI 0 ∧ copT T c n s 19 (35 * n + 3) = nI 0 ∧ (∀ p, p < 6 → copT T c n s 19 (35 * n + 4 + p) = T 19 (35 * s + 4 + p)) ∧ (∀ p, p < 6 → copT T c n s 19 (35 * n + 10 + p) = nI 0) ∧ (∀ x, 16 ≤ x → x < 35 → copT T c n s 19 (35 * n + x) = T 19 (35 * s + x)) ∧ (∀ y, ¬ (35 * n ≤ y ∧ y < 35 * n + 35) → copT T c n s 19 y = T 19 y) ∧ copT T c n s 18 0 = nI (n + 1) ∧ copT T c n s 24 c = T 24 c + nI 1 ∧ ∀ j x, j ≠ 19 → ¬ (j = 18 ∧ x = 0) → ¬ (j = 24 ∧ x = c) → copT T c n s j x = T j x := by
  obtain ⟨b1, b2, b3, b4, b5, b6, b7, b8, b9⟩ := blkT_v T c n
  obtain ⟨c1, c2⟩ := cpT_v (blkT T c n) hs (Nat.le_refl 31)
  unfold copT
  refine ⟨?_, ?_, ?_, ?_, fun p hp => ?_, fun p hp => ?_, fun x h1 h2 => ?_, fun y h => ?_, ?_, ?_, fun j x h1 h2 h3 => ?_⟩
  · rw [c2 _ (by omega)]; exact b1
  · rw [c2 _ (by omega)]; exact b2
  · rw [c2 _ (by omega)]; exact b5 2 (by decide) (by decide)
  · rw [c2 _ (by omega)]; exact b5 3 (by decide) (by decide)
  · rw [show 35 * n + 4 + p = 35 * n + (4 + p) by omega, c1 p (by omega), if_neg (by omega), b6 _ (by omega)]
    congr 1; omega
  · rw [show 35 * n + 10 + p = 35 * n + (4 + (6 + p)) by omega, c1 (6 + p) (by omega), if_pos (by omega)]
  · rw [show 35 * n + x = 35 * n + (4 + (x - 4)) by omega, c1 (x - 4) (by omega), if_neg (by omega), b6 _ (by omega)]
    congr 1; omega
  · rw [c2 _ (by omega)]; exact b6 y h
  · rw [cpT_j _ _ _ _ _ (by decide)]; exact b7
  · rw [cpT_j _ _ _ _ _ (by decide)]; exact b8
  · rw [cpT_j _ _ _ _ _ h1]; exact b9 j x h1 h2 h3
theorem rk_succ {T : TB} {c n : Nat} : rkT T c (n + 1) = rkT T c n + (if T 19 (35 * n + 0) = nI c then nI 1 else nI 0) := rfl
/-- one state more, of a channel, that nobody signed -/
theorem Iv.newS {i : Nat} {T T' : TB} {C n Z hN c : Nat} (H : Iv i T C n Z hN) (hn : n < 64) (hc : c < C) (e0 : T' 19 (35 * n + 0) = nI c) (e1 : T' 19 (35 * n + 1) = rkT T c n) (e2 : T' 19 (35 * n + 2) = nI 0) (hS : IvS T' Z n)
    (hD : ¬ T 9 c = nI 3 → 0 ≤ (wholeT T' n - T 8 c).toInt ∧ (wholeT T' n - T 8 c).toInt ≤ 400000 * (i : Int)) (ho : ∀ y, y < 35 * n → T' 19 y = T 19 y) (e18 : T' 18 0 = nI (n + 1)) (e24 : T' 24 c = T 24 c + nI 1) (hj : ∀ j x, j ≠ 19 → ¬ (j = 18 ∧ x = 0) → ¬ (j = 24 ∧ x = c) → T' j x = T j x) : Iv i T' C (n + 1) Z hN := by
  have hC8 := H.C8
  have hk : ∀ j x, j ≠ 19 → j ≠ 18 → j ≠ 24 → T' j x = T j x := fun j x a b d => hj j x a (fun e => b e.1) (fun e => d e.1)
  have h0 : ∀ s, s < n → T' 19 (35 * s + 0) = T 19 (35 * s + 0) := fun s hs => ho _ (by omega)
  have hrk : ∀ d, rkT T' d n = rkT T d n := fun d => rkT_congr h0
  have hwh : ∀ s, s < n → wholeT T' s = wholeT T s := fun s hs => by
    unfold wholeT
    rw [ho _ (by omega), ho _ (by omega), ho _ (by omega), ho _ (by omega), ho _ (by omega), ho _ (by omega), ho _ (by omega), ho _ (by omega), ho _ (by omega), ho _ (by omega)]
  have hcn : ∀ d s, s < n → cnt T' d s = cnt T d s := fun d s hs => by
    unfold cnt
    rw [hwh s hs, hk 9 d (by decide) (by decide) (by decide), hk 6 d (by decide) (by decide) (by decide), hk 8 d (by decide) (by decide) (by decide), ho (35 * s + 2) (by omega)]
  have hcf : cnt T' c n = false := by
    unfold cnt
    rw [hk 6 c (by decide) (by decide) (by decide), e2, decide_eq_false (p := nI 0 = T 6 c) (fun e => (H.ch hc).2.1 (by rw [← e, nI_0])), Bool.false_and, Bool.and_false]
  have hnw : ∀ d, d < C → nwT T' d (n + 1) = nwT T d n := fun d hd => by
    rw [nwT]
    rw [if_neg (fun q => ?_)]
    · exact nwT_congr h0 (fun s hs _ => hcn d s hs)
    · rw [e0, nI_eq (by omega) (by omega)] at q
      obtain ⟨q1, q2⟩ := q
      subst q1
      rw [hcf] at q2
      cases q2
  refine ⟨?_, ?_, fun s hsn => ⟨?_, ?_⟩, fun d hd => ⟨?_, ?_⟩⟩
  · obtain ⟨g1, g2, g3, g4, g5, g6, g7, g8, g9, g10, g11⟩ := H.1
    refine ⟨by rw [hk 5 0 (by omega) (by omega) (by omega)]; exact g1, g2, e18, hn, by rw [hk 3 0 (by omega) (by omega) (by omega)]; exact g5, g6, by rw [hk 20 0 (by omega) (by omega) (by omega)]; exact g7, g8, by rw [hk 1 0 (by omega) (by omega) (by omega)]; exact g9, fun z hz => by rw [hk 4 z (by omega) (by omega) (by omega)]; exact g10 z hz, fun d hd => ?_⟩
    rw [hk 12 d (by omega) (by omega) (by omega), hk 13 d (by omega) (by omega) (by omega)]
    exact g11 d hd
  · obtain ⟨g1, g2⟩ := H.2.1
    refine ⟨fun q hq => ?_, fun q r h1 h2 => ?_⟩
    · rw [hk 21 q (by omega) (by omega) (by omega), hk 22 q (by omega) (by omega) (by omega), hk 23 q (by omega) (by omega) (by omega)]
      exact g1 q hq
    · rw [hk 21 q (by omega) (by omega) (by omega), hk 21 r (by omega) (by omega) (by omega)]
      exact g2 q r h1 h2
  · by_cases e : s = n
    · subst e; exact hS
    · exact (H.st (by omega)).congr (fun x h1 h2 => ho x (by omega))
  · by_cases e : s = n
    · subst e
      exact ⟨c, hc, e0, by rw [e1, hrk], fun q => by rw [hk 8 c (by omega) (by omega) (by omega)]; rw [hk 9 c (by omega) (by omega) (by omega)] at q; exact hD q⟩
    · obtain ⟨d, h1, h2, h3, h5⟩ := H.sr (show s < n by omega)
      refine ⟨d, h1, by rw [h0 s (by omega)]; exact h2, by rw [ho _ (by omega), rkT_congr (fun s' hs' => h0 s' (by omega))]; exact h3, fun q => ?_⟩
      rw [hk 9 d (by omega) (by omega) (by omega)] at q
      rw [hwh s (by omega), hk 8 d (by omega) (by omega) (by omega)]
      exact h5 q
  · have hC := H.ch hd
    unfold IvC at hC ⊢
    rw [hk 6 d (by decide) (by decide) (by decide), hk 9 d (by decide) (by decide) (by decide), hk 10 d (by decide) (by decide) (by decide), hk 25 d (by decide) (by decide) (by decide), hk 26 d (by decide) (by decide) (by decide), hk 11 d (by decide) (by decide) (by decide), hnw d hd, rk_succ, hrk, e0]
    refine ⟨hC.1, hC.2.1, hC.2.2.1, hC.2.2.2.1, fun q => ?_, ?_, hC.2.2.2.2.2.2.1, fun q => ?_, hC.2.2.2.2.2.2.2.2.1, hC.2.2.2.2.2.2.2.2.2⟩
    · obtain ⟨b, h1, h2, h3⟩ := hC.2.2.2.2.1 q
      exact ⟨b, by omega, h2, by rw [h0 b h1]; exact h3⟩
    · by_cases e : d = c
      · subst e
        rw [if_pos rfl, e24, hC.2.2.2.2.2.1]
      · rw [if_neg (by rw [nI_eq (by omega) (by omega)]; omega), hj 24 d (by decide) (by omega) (by omega), hC.2.2.2.2.2.1, nI_0, Int32.add_zero]
    · obtain ⟨h1, s, h2, h3⟩ := hC.2.2.2.2.2.2.2.1 q
      exact ⟨h1, s, by omega, h3⟩
  · refine (H.he hd).congr (fun j hjj => hk j d (by omega) (by omega) (by omega)) (fun k hk' => ho _ ?_)
    have := H.byn hd
    omega
theorem IvS.cop {T : TB} {Z c n s : Nat} (hs : s < n) (H : IvS T Z s) : IvS (copT T c n s) Z n := by
  obtain ⟨e0, e1, e2, e3, e4, e5, e6, _⟩ := copT_v T c hs
  have hl : ∀ k, k < 3 → ∀ j, j < 5 → lkT (copT T c n s) n k j = lkT T s k j := fun k hk j hj => by
    unfold lkT
    rw [show 35 * n + 16 + 5 * k + j = 35 * n + (16 + 5 * k + j) by omega, e6 _ (by omega) (by omega)]
    congr 1; omega
  unfold IvS at H ⊢
  refine ⟨by rw [e2]; exact okI_nI (by decide), by rw [e3]; exact okI_nI (by decide), fun k hk => ?_, ?_, ?_, fun p hp => ?_⟩
  · unfold IvL
    rw [hl k hk 0 (by decide), hl k hk 1 (by decide), hl k hk 2 (by decide), hl k hk 3 (by decide)]
    exact H.2.2.1 k hk
  · rw [e6 31 (by decide) (by decide), e6 32 (by decide) (by decide), e6 33 (by decide) (by decide), e6 34 (by decide) (by decide)]
    exact H.2.2.2.1
  · rw [e6 31 (by decide) (by decide), e6 32 (by decide) (by decide), e6 33 (by decide) (by decide), e6 34 (by decide) (by decide)]
    exact H.2.2.2.2.1
  · rw [e5 p hp]
    exact ⟨by decide, nI_le (by omega) (by omega)⟩
theorem whole_cop (T : TB) (c : Nat) {n s : Nat} (hs : s < n) : wholeT (copT T c n s) n = wholeT T s := by
  obtain ⟨_, _, _, _, e4, _, e6, _⟩ := copT_v T c hs
  unfold wholeT
  rw [e6 31 (by decide) (by decide), e4 0 (by decide), e4 1 (by decide), e4 2 (by decide), e4 3 (by decide), e4 4 (by decide), e4 5 (by decide), show 35 * n + 16 + 5 * 0 + 0 = 35 * n + 16 by omega, e6 16 (by decide) (by decide), show 35 * n + 16 + 5 * 1 + 0 = 35 * n + 21 by omega, e6 21 (by decide) (by decide), show 35 * n + 16 + 5 * 2 + 0 = 35 * n + 26 by omega, e6 26 (by decide) (by decide)]
theorem Iv.cop {i : Nat} {T : TB} {C n Z hN c : Nat} (H : Iv i T C n Z hN) (hn : n < 64) (hc : c < C) (h9 : ¬ T 9 c = nI 3) : Iv i (copT T c n (ix (nwT T c n))) C (n + 1) Z hN := by
  obtain ⟨h1, h2⟩ := H.nw hc h9
  obtain ⟨_, h3, h4⟩ := nwT_ch (by omega) (by omega) h1
  obtain ⟨e0, e1, e2, e3, e4, e5, e6, e7, e8, e9, e10⟩ := copT_v T c h2
  refine H.newS hn hc e0 e1 e2 (IvS.cop h2 (H.st h2)) (fun q => ?_) (fun y hy => e7 y (by omega)) e8 e9 e10
  rw [whole_cop _ _ h2, (cnt_sg h4).2, Int32.sub_self]
  exact ⟨by decide, by rw [show (0 : Int32).toInt = 0 from rfl]; omega⟩
theorem ep_free {i : Nat} {T : TB} {C n Z hN : Nat} (H : Iv i T C n Z hN) {s K : Nat} (hs : s < n) (hK : K < 3) (h : epT T s = nI K) : lkT T s K 0 = 0 := by
  rw [epT_eq H hs] at h
  split at h
  · rename_i q
    rw [nI_eq (by decide) (by omega)] at h
    rw [← h]; exact q
  · split at h
    · rename_i q
      rw [nI_eq (by decide) (by omega)] at h
      rw [← h]; exact q
    · split at h
      · rename_i q
        rw [nI_eq (by decide) (by omega)] at h
        rw [← h]; exact q
      · exact absurd h.symm (fun e => nI_pos (n := K) (by omega) (by rw [e]; decide))
theorem Iv.lks {i : Nat} {T : TB} {C n Z hN S c K P Q z : Nat} {v e : Int32} (H : Iv i T C n Z hN) (hS : S < n) (hc0 : T 19 (35 * S + 0) = nI c) (hc8 : c < 8) (h9 : ¬ T 9 c = nI 3) (hP : P < 6) (hQ : Q < 6) (hz : z < Z) (hz16 : z < 16) (hK : K < 3) (hep : epT T S = nI K) (hv : 0 ≤ v) : Iv i (lksT T S K P Q z v e) C n Z hN := by
  rw [lksT_eq]
  refine H.lok hS hc0 hc8 h9 hP hK ⟨hv, okI_nI hP, okI_nI hQ, okI_nI hz16, fun _ => okI_nI hz⟩ ?_
  rw [ep_free H hS hK hep]
  grind
/-- a hop is paid -/
theorem Iv.pyh {i : Nat} {T : TB} {C n Z hN q z : Nat} {v e : Int32} (H : Iv i T C n Z hN) (hn : n < 64) (hc : hpC T q < C) (h9 : ¬ T 9 (hpC T q) = nI 3) (hP : ix (T 22 q) < 6) (hQ : ix (T 23 q) < 6) (hz : z < Z) (hv : 0 ≤ v) (hep : ¬ epT (copT T (hpC T q) n (ix (nwT T (hpC T q) n))) n = -1) : Iv i (pyhT T n q z v e) C (n + 1) Z hN := by
  have h16 := H.Z16
  have h8 := H.C8
  have hc8 : hpC T q < 8 := Nat.lt_of_lt_of_le hc h8
  obtain ⟨n1, n2⟩ := H.nw hc h9
  obtain ⟨_, n3, n4⟩ := nwT_ch (by omega) (by omega) n1
  have hY := H.cop hn hc h9
  obtain ⟨e0, e1, e2, e3, e4, e5, e6, e7, e8, e9, e10⟩ := copT_v T (hpC T q) n2
  have hw0 := whole_cop T (hpC T q) n2
  generalize hYe : copT T (hpC T q) n (ix (nwT T (hpC T q) n)) = Y at *
  obtain ⟨K, hK, hepK⟩ := ep_nI hep
  have y9 : ¬ Y 9 (hpC T q) = nI 3 := by rw [e10 9 _ (by decide) (by omega) (by omega)]; exact h9
  have hX := hY.lks (e := e) (Q := ix (T 23 q)) (show n < n + 1 by omega) e0 hc8 y9 hP hQ hz (by omega) hK hepK hv
  have hwX : wholeT (lksT Y n K (ix (T 22 q)) (ix (T 23 q)) z v e) n = wholeT Y n := by
    rw [lksT_eq, whole_ls _ _ hK, whole_sh _ _ hP, show lkT (up Y 19 (35 * n + 4 + ix (T 22 q)) (Y 19 (35 * n + 4 + ix (T 22 q)) - v)) n K 0 = lkT Y n K 0 from up_i _ _ _ (by omega), ep_free hY (by omega) hK hepK]
    grind
  have hXj : ∀ j x, j ≠ 19 → lksT Y n K (ix (T 22 q)) (ix (T 23 q)) z v e j x = Y j x := fun j x h => lksT_j _ _ _ _ _ _ _ _ _ h
  have hX0 : lksT Y n K (ix (T 22 q)) (ix (T 23 q)) z v e 19 (35 * n + 0) = nI (hpC T q) := by
    rw [lksT_eq, lsU_o (by omega), up_i _ _ _ (by omega)]; exact e0
  unfold pyhT pyh0
  rw [hYe, hepK, ix_nI (by omega)]
  generalize hXe : lksT Y n K (ix (T 22 q)) (ix (T 23 q)) z v e = X at *
  have x6 : X 6 (hpC T q) = T 6 (hpC T q) := by rw [hXj 6 _ (by decide), e10 6 _ (by decide) (by omega) (by omega)]
  have x9 : ¬ X 9 (hpC T q) = nI 3 := by rw [hXj 9 _ (by decide)]; exact y9
  have x8 : X 8 (hpC T q) = T 8 (hpC T q) := by rw [hXj 8 _ (by decide), e10 8 _ (by decide) (by omega) (by omega)]
  have ho : ∀ j x, ¬ (j = 19 ∧ x = 35 * n + 2) → ¬ (j = 25 ∧ x = hpC T q) → up (up X 19 (35 * n + 2) (T 6 (hpC T q))) 25 (hpC T q) (nI n) j x = X j x := fun j x h1 h2 => by
    rw [show up (up X 19 (35 * n + 2) (T 6 (hpC T q))) 25 (hpC T q) (nI n) j x = _ from if_neg h2, show up X 19 (35 * n + 2) (T 6 (hpC T q)) j x = _ from if_neg h1]
  have o2 : up (up X 19 (35 * n + 2) (T 6 (hpC T q))) 25 (hpC T q) (nI n) 19 (35 * n + 2) = T 6 (hpC T q) := by rw [up_j _ _ _ _ (by decide), up_s]
  have o25 : up (up X 19 (35 * n + 2) (T 6 (hpC T q))) 25 (hpC T q) (nI n) 25 (hpC T q) = nI n := up_s _ _ _ _
  generalize hWe : up (up X 19 (35 * n + 2) (T 6 (hpC T q))) 25 (hpC T q) (nI n) = W at *
  have hwW : wholeT W n = wholeT X n := by
    unfold wholeT
    rw [ho 19 _ (by omega) (by omega), ho 19 _ (by omega) (by omega), ho 19 _ (by omega) (by omega), ho 19 _ (by omega) (by omega), ho 19 _ (by omega) (by omega), ho 19 _ (by omega) (by omega), ho 19 _ (by omega) (by omega), ho 19 _ (by omega) (by omega), ho 19 _ (by omega) (by omega), ho 19 _ (by omega) (by omega)]
  have hcn : cnt W (hpC T q) n = true := by
    unfold cnt
    rw [hwW, hwX, hw0, (cnt_sg n4).2, o2, ho 9 _ (by omega) (by omega), ho 6 _ (by omega) (by omega), ho 8 _ (by omega) (by omega), x6, x8, decide_eq_false x9, decide_eq_true rfl, decide_eq_true rfl]
    rfl
  have hnw : nwT W (hpC T q) (n + 1) = nI n := by
    rw [nwT, if_pos ⟨by rw [ho 19 _ (by omega) (by omega)]; exact hX0, hcn⟩]
  refine hX.stw2 (show n < n + 1 by omega) hc hX0 x9 (fun j x h1 h2 => ho j x (by omega) h2) hwW ((hX.st (by omega)).sig (fun x h1 h2 h3 h4 => ho 19 x (by omega) (by omega)) (by rw [o2]; exact (H.ch hc).1) (by rw [ho 19 _ (by omega) (by omega)]; exact (hX.st (by omega)).2.1)) ?_
  have hC := hX.ch hc
  unfold IvC at hC ⊢
  rw [ho 6 _ (by omega) (by omega), ho 9 _ (by omega) (by omega), ho 10 _ (by omega) (by omega), ho 24 _ (by omega) (by omega), ho 26 _ (by omega) (by omega), ho 11 _ (by omega) (by omega), o25, hnw, rkT_congr (fun s _ => ho 19 _ (by omega) (by omega))]
  refine ⟨hC.1, hC.2.1, hC.2.2.1, hC.2.2.2.1, fun q => ?_, hC.2.2.2.2.2.1, fun q => absurd q x9, fun _ => ⟨rfl, n, by omega, rfl⟩, hC.2.2.2.2.2.2.2.2.1, hC.2.2.2.2.2.2.2.2.2⟩
  obtain ⟨b, h1, h2, h3⟩ := hC.2.2.2.2.1 q
  exact ⟨b, h1, h2, by rw [ho 19 _ (by omega) (by omega)]; exact h3⟩
