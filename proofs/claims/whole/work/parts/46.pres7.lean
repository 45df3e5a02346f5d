/-! what holds stays: a whole payment, a new channel -/
theorem n13' : ¬ nI 1 = nI 3 := by decide
theorem hbA_of {T : TB} {n : Nat} {v : Int32} {m : Nat} (h : hbA T n v m = false) {q : Nat} (hq : q < m) : hbad T n v q = false := by
  induction m with
  | zero => omega
  | succ m ih =>
    rw [hbA, Bool.or_eq_false_iff] at h
    by_cases e : q = m
    · subst e; exact h.2
    · exact ih h.1 (by omega)
theorem ep_cop (T : TB) (c : Nat) {n s : Nat} (hs : s < n) : epT (copT T c n s) n = epT T s := by
  obtain ⟨_, _, _, _, _, _, e6, _⟩ := copT_v T c hs
  unfold epT
  rw [show 35 * n + 16 + 5 * 0 + 0 = 35 * n + 16 by omega, e6 16 (by decide) (by decide), show 35 * n + 16 + 5 * 1 + 0 = 35 * n + 21 by omega, e6 21 (by decide) (by decide), show 35 * n + 16 + 5 * 2 + 0 = 35 * n + 26 by omega, e6 26 (by decide) (by decide)]
theorem pyhT_v (T : TB) {n : Nat} (q Z : Nat) (v e : Int32) (hs : ix (nwT T (hpC T q) n) < n) (hP : ix (T 22 q) < 6) (hep : ¬ epT (copT T (hpC T q) n (ix (nwT T (hpC T q) n))) n = -1) : (∀ y, y < 35 * n → pyhT T n q Z v e 19 y = T 19 y) ∧ pyhT T n q Z v e 19 (35 * n + 0) = nI (hpC T q) := by
  obtain ⟨e0, e1, e2, e3, e4, e5, e6, e7, e8, e9, e10⟩ := copT_v T (hpC T q) hs
  obtain ⟨K, hK, hepK⟩ := ep_nI hep
  unfold pyhT pyh0
  rw [hepK, ix_nI (by omega), lksT_eq]
  refine ⟨fun y hy => ?_, ?_⟩
  · rw [up_j _ _ _ _ (by decide), up_i _ _ _ (by omega), lsU_o (by omega), up_i _ _ _ (by omega), e7 y (by omega)]
  · rw [up_j _ _ _ _ (by decide), up_i _ _ _ (by omega), lsU_o (by omega), up_i _ _ _ (by omega), e0]
theorem Iv.pyA {i : Nat} {T0 : TB} {C n Z hN : Nat} {v e : Int32} (hI : Iv i T0 C n Z 0) (h4 : hN ≤ 4) (hH : IvH T0 C hN) (hv : 0 ≤ v) (hb : hbA T0 n v hN = false) (hpos : 0 < hN) (hsum : n + hN ≤ 64) (hZ : Z < 16) {P : Nat} (hP : P < 6) (E : Int32) : ∀ q, q ≤ hN → Iv i (pyhA (secT T0 Z P) n Z v E q).1 C (n + q) (Z + 1) 0 ∧ (∀ y, y < 35 * n → (pyhA (secT T0 Z P) n Z v E q).1 19 y = T0 19 y) ∧ (∀ d, d < C → (∀ r, r < q → hpC T0 r ≠ d) → nwT (pyhA (secT T0 Z P) n Z v E q).1 d (n + q) = nwT T0 d n) ∧ (q < hN → ¬ (pyhA (secT T0 Z P) n Z v E q).1 9 (hpC T0 q) = nI 3 ∧ ¬ epT (copT (pyhA (secT T0 Z P) n Z v E q).1 (hpC T0 q) (n + q) (ix (nwT (pyhA (secT T0 Z P) n Z v E q).1 (hpC T0 q) (n + q)))) (n + q) = -1) := by
  have h64 := hI.n64
  have h8 := hI.C8
  have hJ : ∀ q j x, (j ≠ 18 ∧ j ≠ 19 ∧ j ≠ 24 ∧ j ≠ 25) → j ≠ 3 → j ≠ 4 → (pyhA (secT T0 Z P) n Z v E q).1 j x = T0 j x := fun q j x h a b => by
    rw [pyhA_j _ _ _ _ _ _ _ h]
    unfold secT
    rw [up_j _ _ _ _ a, up_j _ _ _ _ b]
  -- what is needed for one hop, out of what holds before it
  have stp : ∀ q, q < hN → (Iv i (pyhA (secT T0 Z P) n Z v E q).1 C (n + q) (Z + 1) 0 ∧ (∀ y, y < 35 * n → (pyhA (secT T0 Z P) n Z v E q).1 19 y = T0 19 y) ∧ (∀ d, d < C → (∀ r, r < q → hpC T0 r ≠ d) → nwT (pyhA (secT T0 Z P) n Z v E q).1 d (n + q) = nwT T0 d n)) → hpC (pyhA (secT T0 Z P) n Z v E q).1 q = hpC T0 q ∧ hpC T0 q < C ∧ ¬ (pyhA (secT T0 Z P) n Z v E q).1 9 (hpC T0 q) = nI 3 ∧ ix (nwT (pyhA (secT T0 Z P) n Z v E q).1 (hpC T0 q) (n + q)) < n ∧ ¬ epT (copT (pyhA (secT T0 Z P) n Z v E q).1 (hpC T0 q) (n + q) (ix (nwT (pyhA (secT T0 Z P) n Z v E q).1 (hpC T0 q) (n + q)))) (n + q) = -1 := by
    intro q hq ⟨a1, a2, a3⟩
    have hc := ((hH.1 q hq).1.ix (by omega)).2
    have hbd := hbA_of hb hq
    unfold hbad at hbd
    rw [Bool.or_eq_false_iff, Bool.or_eq_false_iff] at hbd
    have p1 : T0 9 (hpC T0 q) = nI 1 := by simpa using hbd.1.1
    have p2 : ¬ epT T0 (ix (nwT T0 (hpC T0 q) n)) = -1 := of_decide_eq_false hbd.2
    have hun : ∀ r, r < q → hpC T0 r ≠ hpC T0 q := fun r hr e => by
      have e1 := ((hH.1 r (by omega)).1.ix (by omega)).1
      have e2 := ((hH.1 q hq).1.ix (by omega)).1
      refine hH.2 r q hr hq ?_
      rw [e1, e2]
      exact congrArg nI e
    have hw := a3 _ hc hun
    obtain ⟨n1, n2⟩ := hI.nw hc (ph13 p1)
    refine ⟨?_, hc, by rw [hJ q 9 _ (by decide) (by decide) (by decide)]; exact ph13 p1, by rw [hw]; exact n2, ?_⟩
    · show ix _ = ix _
      rw [hJ q 21 _ (by decide) (by decide) (by decide)]
    · rw [hw, ep_cop _ _ (by omega)]
      have : epT (pyhA (secT T0 Z P) n Z v E q).1 (ix (nwT T0 (hpC T0 q) n)) = epT T0 (ix (nwT T0 (hpC T0 q) n)) := by
        clear p2 hw
        generalize ix (nwT T0 (hpC T0 q) n) = s0 at n2
        unfold epT
        rw [a2 (35 * s0 + 16 + 5 * 0 + 0) (by omega), a2 (35 * s0 + 16 + 5 * 1 + 0) (by omega), a2 (35 * s0 + 16 + 5 * 2 + 0) (by omega)]
      rw [this]
      exact p2
  have main : ∀ q, q ≤ hN → Iv i (pyhA (secT T0 Z P) n Z v E q).1 C (n + q) (Z + 1) 0 ∧ (∀ y, y < 35 * n → (pyhA (secT T0 Z P) n Z v E q).1 19 y = T0 19 y) ∧ (∀ d, d < C → (∀ r, r < q → hpC T0 r ≠ d) → nwT (pyhA (secT T0 Z P) n Z v E q).1 d (n + q) = nwT T0 d n) := by
    intro q
    induction q with
    | zero =>
      intro _
      have hs : ∀ x, secT T0 Z P 19 x = T0 19 x := fun x => by
        unfold secT
        rw [up_j _ _ _ _ (by decide), up_j _ _ _ _ (by decide)]
      have hk : ∀ j x, j ≠ 3 → j ≠ 4 → secT T0 Z P j x = T0 j x := fun j x a b => by
        unfold secT
        rw [up_j _ _ _ _ a, up_j _ _ _ _ b]
      refine ⟨hI.sec hZ hP, fun y _ => hs y, fun d _ _ => nwT_congr (fun s _ => hs _) (fun s _ _ => cnt_congr (by show secT T0 Z P 9 d = nI 3 ↔ _; rw [hk 9 d (by decide) (by decide)]) (hk 6 d (by decide) (by decide)) (fun _ => hk 8 d (by decide) (by decide)) (fun x _ _ => hs x))⟩
    | succ q ih =>
      intro hq
      have a := ih (by omega)
      obtain ⟨a1, a2, a3⟩ := a
      obtain ⟨b1, b2, b3, b4, b5⟩ := stp q (by omega) ⟨a1, a2, a3⟩
      have hfk := ((hH.1 q (by omega)).2.1.ix (by decide)).2
      have htk := ((hH.1 q (by omega)).2.2.ix (by decide)).2
      have e1 : (pyhA (secT T0 Z P) n Z v E (q + 1)).1 = pyhT (pyhA (secT T0 Z P) n Z v E q).1 (n + q) q Z v (pyhA (secT T0 Z P) n Z v E q).2 := rfl
      have hJq : ∀ j x, (j ≠ 18 ∧ j ≠ 19 ∧ j ≠ 24 ∧ j ≠ 25) → (pyhA (secT T0 Z P) n Z v E (q + 1)).1 j x = (pyhA (secT T0 Z P) n Z v E q).1 j x := fun j x h => by
        rw [e1, pyhT_j _ _ _ _ _ _ _ h]
      have h22 : (pyhA (secT T0 Z P) n Z v E q).1 22 q = T0 22 q := hJ q 22 q (by decide) (by decide) (by decide)
      have h23 : (pyhA (secT T0 Z P) n Z v E q).1 23 q = T0 23 q := hJ q 23 q (by decide) (by decide) (by decide)
      have hX := a1.pyh (q := q) (z := Z) (v := v) (e := (pyhA (secT T0 Z P) n Z v E q).2) (by omega) (by rw [b1]; exact b2) (by rw [b1]; exact b3) (by rw [h22]; exact hfk) (by rw [h23]; exact htk) (by omega) hv (by rw [b1]; exact b5)
      obtain ⟨r1, r2⟩ := pyhT_v (pyhA (secT T0 Z P) n Z v E q).1 (n := n + q) q Z v (pyhA (secT T0 Z P) n Z v E q).2 (by rw [b1]; omega) (by rw [h22]; exact hfk) (by rw [b1]; exact b5)
      rw [← e1] at hX r1 r2
      refine ⟨hX, fun y hy => by rw [r1 y (by omega)]; exact a2 y hy, fun d hd hr => ?_⟩
      rw [show n + (q + 1) = (n + q) + 1 by omega, nwT, if_neg (fun t => ?_)]
      · rw [← a3 d hd (fun r hr' => hr r (by omega))]
        exact nwT_congr (fun s hs => r1 _ (by omega)) (fun s hs _ => cnt_congr (by rw [hJq 9 d (by decide)]) (hJq 6 d (by decide)) (fun _ => hJq 8 d (by decide)) (fun x _ _ => r1 x (by omega)))
      · rw [r2, b1, nI_eq (by omega) (by omega)] at t
        exact hr q (by omega) t.1
  intro q hq
  refine ⟨(main q hq).1, (main q hq).2.1, (main q hq).2.2, fun hq' => ?_⟩
  obtain ⟨_, _, b3, _, b5⟩ := stp q hq' (main q hq)
  exact ⟨b3, b5⟩
theorem Iv.pyOK {i : Nat} {T0 : TB} {C n Z hN : Nat} {v e : Int32} (hI : Iv i T0 C n Z 0) (h4 : hN ≤ 4) (hH : IvH T0 C hN) (hv : 0 ≤ v) : PyOK i T0 C n Z hN v e := by
  intro hb hpos hsum hZ q hq
  have hP := ((hH.1 (hN - 1) (by omega)).2.2.ix (by decide)).2
  obtain ⟨a1, _, _, a4⟩ := Iv.pyA (e := e) hI h4 hH hv hb hpos hsum hZ hP (endE T0 e (hN - 1)) q (by omega)
  exact ⟨a1, a4 hq⟩
/-! a new channel -/
theorem bit_all : ∀ (g : Fin 64) (p : Fin 6), bitT (nI g) p = if hasB (nI g) (nI p) = true then 1 else 0 := by decide +kernel
theorem size_mul {set : Int32} (h : okI set 64) (v : Int32) : sizeT set * v = (if hasB set (nI 0) = true then v else 0) + (if hasB set (nI 1) = true then v else 0) + (if hasB set (nI 2) = true then v else 0) + (if hasB set (nI 3) = true then v else 0) + (if hasB set (nI 4) = true then v else 0) + (if hasB set (nI 5) = true then v else 0) := by
  obtain ⟨g, h1, rfl⟩ := h
  have key : ∀ p : Fin 6, bitT (nI g) p = if hasB (nI g) (nI p) = true then 1 else 0 := fun p => bit_all ⟨g, h1⟩ p
  unfold sizeT
  rw [show bitT (nI g) 0 = _ from key 0, show bitT (nI g) 1 = _ from key 1, show bitT (nI g) 2 = _ from key 2, show bitT (nI g) 3 = _ from key 3, show bitT (nI g) 4 = _ from key 4, show bitT (nI g) 5 = _ from key 5, nI_0, Int32.zero_add, Int32.add_mul, Int32.add_mul, Int32.add_mul, Int32.add_mul, Int32.add_mul]
  have m : ∀ b : Bool, (if b = true then (1 : Int32) else 0) * v = if b = true then v else 0 := fun b => by
    cases b
    · exact Int32.zero_mul
    · exact Int32.one_mul _
  rw [m, m, m, m, m, m]
  rfl
theorem dep1_v (T : TB) (n : Nat) (set v : Int32) {p : Nat} (hp : p < 6) : dep1 T n set v p 19 (35 * n + 4 + p) = (if hasB set (nI p) = true then v else T 19 (35 * n + 4 + p)) ∧ (∀ x, x ≠ 35 * n + 4 + p → dep1 T n set v p 19 x = T 19 x) ∧ ∀ j x, j ≠ 0 → j ≠ 19 → dep1 T n set v p j x = T j x := by
  unfold dep1
  split
  · refine ⟨up_s _ _ _ _, fun x hx => ?_, fun j x h1 h2 => ?_⟩
    · rw [up_i _ _ _ hx, up_j _ _ _ _ (by decide)]
    · rw [up_j _ _ _ _ h2, up_j _ _ _ _ h1]
  · exact ⟨rfl, fun x _ => rfl, fun j x _ _ => rfl⟩
theorem dep6_v (T : TB) (n : Nat) (set v : Int32) : (∀ p, p < 6 → dep6 T n set v 19 (35 * n + 4 + p) = if hasB set (nI p) = true then v else T 19 (35 * n + 4 + p)) ∧ (∀ x, ¬ (35 * n + 4 ≤ x ∧ x < 35 * n + 10) → dep6 T n set v 19 x = T 19 x) ∧ ∀ j x, j ≠ 0 → j ≠ 19 → dep6 T n set v j x = T j x := by
  have d : ∀ (T : TB) {p : Nat}, p < 6 → _ := fun T {p} hp => dep1_v T n set v (p := p) hp
  unfold dep6
  refine ⟨fun p hp => ?_, fun x hx => ?_, fun j x h1 h2 => ?_⟩
  · rcases (show p = 0 ∨ p = 1 ∨ p = 2 ∨ p = 3 ∨ p = 4 ∨ p = 5 by omega) with rfl | rfl | rfl | rfl | rfl | rfl
    · rw [(d _ (p := 5) (by decide)).2.1 _ (by omega), (d _ (p := 4) (by decide)).2.1 _ (by omega), (d _ (p := 3) (by decide)).2.1 _ (by omega), (d _ (p := 2) (by decide)).2.1 _ (by omega), (d _ (p := 1) (by decide)).2.1 _ (by omega), (d _ (p := 0) (by decide)).1]
    · rw [(d _ (p := 5) (by decide)).2.1 _ (by omega), (d _ (p := 4) (by decide)).2.1 _ (by omega), (d _ (p := 3) (by decide)).2.1 _ (by omega), (d _ (p := 2) (by decide)).2.1 _ (by omega), (d _ (p := 1) (by decide)).1, (d _ (p := 0) (by decide)).2.1 _ (by omega)]
    · rw [(d _ (p := 5) (by decide)).2.1 _ (by omega), (d _ (p := 4) (by decide)).2.1 _ (by omega), (d _ (p := 3) (by decide)).2.1 _ (by omega), (d _ (p := 2) (by decide)).1, (d _ (p := 1) (by decide)).2.1 _ (by omega), (d _ (p := 0) (by decide)).2.1 _ (by omega)]
    · rw [(d _ (p := 5) (by decide)).2.1 _ (by omega), (d _ (p := 4) (by decide)).2.1 _ (by omega), (d _ (p := 3) (by decide)).1, (d _ (p := 2) (by decide)).2.1 _ (by omega), (d _ (p := 1) (by decide)).2.1 _ (by omega), (d _ (p := 0) (by decide)).2.1 _ (by omega)]
    · rw [(d _ (p := 5) (by decide)).2.1 _ (by omega), (d _ (p := 4) (by decide)).1, (d _ (p := 3) (by decide)).2.1 _ (by omega), (d _ (p := 2) (by decide)).2.1 _ (by omega), (d _ (p := 1) (by decide)).2.1 _ (by omega), (d _ (p := 0) (by decide)).2.1 _ (by omega)]
    · rw [(d _ (p := 5) (by decide)).1, (d _ (p := 4) (by decide)).2.1 _ (by omega), (d _ (p := 3) (by decide)).2.1 _ (by omega), (d _ (p := 2) (by decide)).2.1 _ (by omega), (d _ (p := 1) (by decide)).2.1 _ (by omega), (d _ (p := 0) (by decide)).2.1 _ (by omega)]
  · rw [(d _ (p := 5) (by decide)).2.1 _ (by omega), (d _ (p := 4) (by decide)).2.1 _ (by omega), (d _ (p := 3) (by decide)).2.1 _ (by omega), (d _ (p := 2) (by decide)).2.1 _ (by omega), (d _ (p := 1) (by decide)).2.1 _ (by omega), (d _ (p := 0) (by decide)).2.1 _ (by omega)]
  · rw [(d _ (p := 5) (by decide)).2.2 _ _ h1 h2, (d _ (p := 4) (by decide)).2.2 _ _ h1 h2, (d _ (p := 3) (by decide)).2.2 _ _ h1 h2, (d _ (p := 2) (by decide)).2.2 _ _ h1 h2, (d _ (p := 1) (by decide)).2.2 _ _ h1 h2, (d _ (p := 0) (by decide)).2.2 _ _ h1 h2]
theorem rk_none {T : TB} {c : Nat} {n : Nat} (h : ∀ s, s < n → ¬ T 19 (35 * s + 0) = nI c) : rkT T c n = nI 0 := by
  induction n with
  | zero => rfl
  | succ n ih => rw [rk_succ, ih (fun s hs => h s (by omega)), if_neg (h n (by omega)), nI_add]
/-- what a new channel's table tells -/
theorem chn1_v (T : TB) (C n : Nat) (set v d : Int32) : chn1 T C n set v d 19 (35 * n + 0) = nI C ∧ chn1 T C n set v d 19 (35 * n + 1) = rkT (chn0 T C set v d) C n ∧ chn1 T C n set v d 19 (35 * n + 2) = set ∧ chn1 T C n set v d 19 (35 * n + 33) = -1 ∧ chn1 T C n set v d 19 (35 * n + 34) = -1 ∧ (∀ p, p < 6 → chn1 T C n set v d 19 (35 * n + 4 + p) = if hasB set (nI p) = true then v else 0) ∧ (∀ x, (x = 3 ∨ 10 ≤ x) → x < 33 → chn1 T C n set v d 19 (35 * n + x) = 0) ∧ (∀ y, ¬ (35 * n ≤ y ∧ y < 35 * n + 35) → chn1 T C n set v d 19 y = T 19 y) ∧ chn1 T C n set v d 18 0 = nI (n + 1) ∧ chn1 T C n set v d 24 C = nI 0 + nI 1 ∧ chn1 T C n set v d 25 C = nI n ∧ ∀ j x, j ≠ 0 → j ≠ 19 → ¬ (j = 18 ∧ x = 0) → ¬ (j = 24 ∧ x = C) → ¬ (j = 25 ∧ x = C) → chn1 T C n set v d j x = chn0 T C set v d j x := by
  obtain ⟨b1, b2, b3, b4, b5, b6, b7, b8, b9⟩ := blkT_v (chn0 T C set v d) C n
  obtain ⟨d1, d2, d3⟩ := dep6_v (blkT (chn0 T C set v d) C n) n set v
  have c19 : ∀ y, chn0 T C set v d 19 y = T 19 y := fun y => by
    unfold chn0
    rw [up_j _ _ _ _ (by decide), up_j _ _ _ _ (by decide), up_j _ _ _ _ (by decide), up_j _ _ _ _ (by decide), up_j _ _ _ _ (by decide), up_j _ _ _ _ (by decide), up_j _ _ _ _ (by decide), up_j _ _ _ _ (by decide), up_j _ _ _ _ (by decide)]
  have c24 : chn0 T C set v d 24 C = nI 0 := by
    unfold chn0
    rw [up_j _ _ _ _ (by decide), up_j _ _ _ _ (by decide), up_s]
  unfold chn1
  refine ⟨?_, ?_, ?_, ?_, ?_, fun p hp => ?_, fun x h1 h2 => ?_, fun y h => ?_, ?_, ?_, up_s _ _ _ _, fun j x h1 h2 h3 h4 h5 => ?_⟩
  · rw [up_j _ _ _ _ (by decide), up_i _ _ _ (by omega), d2 _ (by omega), b1]
  · rw [up_j _ _ _ _ (by decide), up_i _ _ _ (by omega), d2 _ (by omega), b2]
  · rw [up_j _ _ _ _ (by decide), up_s]
  · rw [up_j _ _ _ _ (by decide), up_i _ _ _ (by omega), d2 _ (by omega), b3]
  · rw [up_j _ _ _ _ (by decide), up_i _ _ _ (by omega), d2 _ (by omega), b4]
  · rw [up_j _ _ _ _ (by decide), up_i _ _ _ (by omega), d1 p hp, show 35 * n + 4 + p = 35 * n + (4 + p) by omega, b5 (4 + p) (by omega) (by omega), nI_0]
  · rw [up_j _ _ _ _ (by decide), up_i _ _ _ (by omega), d2 _ (by omega), b5 x (by omega) h2, nI_0]
  · rw [up_j _ _ _ _ (by decide), up_i _ _ _ (by omega), d2 _ (by omega), b6 y h, c19]
  · rw [up_j _ _ _ _ (by decide), up_j _ _ _ _ (by decide), d3 _ _ (by decide) (by decide), b7]
  · rw [up_j _ _ _ _ (by decide), up_j _ _ _ _ (by decide), d3 _ _ (by decide) (by decide), b8, c24]
  · rw [show up _ 25 C _ j x = _ from if_neg h5, up_j _ _ _ _ h2, d3 _ _ h1 h2, b9 j x h2 h3 h4]
theorem chn0_v (T : TB) (C : Nat) (set v d : Int32) : chn0 T C set v d 5 0 = nI (C + 1) ∧ chn0 T C set v d 6 C = set ∧ chn0 T C set v d 8 C = sizeT set * v ∧ chn0 T C set v d 9 C = nI 1 ∧ chn0 T C set v d 10 C = -1 ∧ chn0 T C set v d 26 C = 0 ∧ chn0 T C set v d 27 C = 0 ∧ (∀ j x, x ≠ C → ¬ (j = 5 ∧ x = 0) → chn0 T C set v d j x = T j x) ∧ ∀ j x, j ≠ 5 → j ≠ 6 → j ≠ 7 → j ≠ 8 → j ≠ 9 → j ≠ 10 → j ≠ 24 → j ≠ 26 → j ≠ 27 → chn0 T C set v d j x = T j x := by
  unfold chn0
  refine ⟨?_, ?_, ?_, ?_, ?_, ?_, ?_, fun j x h1 h2 => ?_, fun j x a b c e f g i k l => ?_⟩
  · rw [up_j _ _ _ _ (by decide), up_j _ _ _ _ (by decide), up_j _ _ _ _ (by decide), up_j _ _ _ _ (by decide), up_j _ _ _ _ (by decide), up_j _ _ _ _ (by decide), up_j _ _ _ _ (by decide), up_j _ _ _ _ (by decide), up_s]
  · rw [up_j _ _ _ _ (by decide), up_j _ _ _ _ (by decide), up_j _ _ _ _ (by decide), up_j _ _ _ _ (by decide), up_j _ _ _ _ (by decide), up_j _ _ _ _ (by decide), up_j _ _ _ _ (by decide), up_s]
  · rw [up_j _ _ _ _ (by decide), up_j _ _ _ _ (by decide), up_j _ _ _ _ (by decide), up_j _ _ _ _ (by decide), up_j _ _ _ _ (by decide), up_s]
  · rw [up_j _ _ _ _ (by decide), up_j _ _ _ _ (by decide), up_j _ _ _ _ (by decide), up_j _ _ _ _ (by decide), up_s]
  · rw [up_j _ _ _ _ (by decide), up_j _ _ _ _ (by decide), up_j _ _ _ _ (by decide), up_s]
  · rw [up_j _ _ _ _ (by decide), up_s]
  · rw [up_s]
  · unfold up
    rw [if_neg (fun e => h1 e.2), if_neg (fun e => h1 e.2), if_neg (fun e => h1 e.2), if_neg (fun e => h1 e.2), if_neg (fun e => h1 e.2), if_neg (fun e => h1 e.2), if_neg (fun e => h1 e.2), if_neg (fun e => h1 e.2), if_neg h2]
  · rw [up_j _ _ _ _ l, up_j _ _ _ _ k, up_j _ _ _ _ i, up_j _ _ _ _ g, up_j _ _ _ _ f, up_j _ _ _ _ e, up_j _ _ _ _ c, up_j _ _ _ _ b, up_j _ _ _ _ a]
theorem Iv.chan1 {i : Nat} {T : TB} {C n Z hN : Nat} (H : Iv i T C n Z hN) (hC : C < 8) (hn : n < 64) {set v d : Int32} (hset : okI set 64) (hs0 : set ≠ 0) : Iv i (chn1 T C n set v d) (C + 1) (n + 1) Z hN := by
  obtain ⟨e0, e1, e2, e33, e34, esh, ez, eo, e18, e24, e25, ej⟩ := chn1_v T C n set v d
  obtain ⟨k5, k6, k8, k9, k10, k26, k27, kx, kj⟩ := chn0_v T C set v d
  have hno : ∀ s, s < n → ¬ T 19 (35 * s + 0) = nI C := fun s hs e => by
    obtain ⟨c, h1, h2⟩ := H.so hs
    rw [h2, nI_eq (by omega) (by omega)] at e
    omega
  have h0 : ∀ s, s < n → chn1 T C n set v d 19 (35 * s + 0) = T 19 (35 * s + 0) := fun s hs => eo _ (by omega)
  have hk : ∀ j x, x ≠ C → j ≠ 0 → j ≠ 19 → ¬ (j = 18 ∧ x = 0) → ¬ (j = 5 ∧ x = 0) → chn1 T C n set v d j x = T j x := fun j x a b f g l => by
    rw [ej j x b f g (fun e => a e.2) (fun e => a e.2), kx j x a l]
  have hg : ∀ j x, (j = 1 ∨ j = 3 ∨ j = 4 ∨ j = 12 ∨ j = 13 ∨ (20 ≤ j ∧ j ≤ 23)) → chn1 T C n set v d j x = T j x := fun j x h => by
    rw [ej j x (by omega) (by omega) (by omega) (by omega) (by omega), kj j x (by omega) (by omega) (by omega) (by omega) (by omega) (by omega) (by omega) (by omega) (by omega)]
  have hc : ∀ j, j ≠ 0 → j ≠ 19 → j ≠ 18 → j ≠ 24 → j ≠ 25 → chn1 T C n set v d j C = chn0 T C set v d j C := fun j a b f g l => ej j C a b (fun e => f e.1) (fun e => g e.1) (fun e => l e.1)
  have hrk : ∀ c, rkT (chn1 T C n set v d) c n = rkT T c n := fun c => rkT_congr h0
  have hwh : ∀ s, s < n → wholeT (chn1 T C n set v d) s = wholeT T s := fun s hs => by
    unfold wholeT
    rw [eo _ (by omega), eo _ (by omega), eo _ (by omega), eo _ (by omega), eo _ (by omega), eo _ (by omega), eo _ (by omega), eo _ (by omega), eo _ (by omega), eo _ (by omega)]
  have hwn : wholeT (chn1 T C n set v d) n = sizeT set * v := by
    rw [size_mul hset]
    unfold wholeT
    rw [ez 31 (by omega) (by omega), esh 0 (by decide), esh 1 (by decide), esh 2 (by decide), esh 3 (by decide), esh 4 (by decide), esh 5 (by decide), show 35 * n + 16 + 5 * 0 + 0 = 35 * n + 16 by omega, ez 16 (by omega) (by omega), show 35 * n + 16 + 5 * 1 + 0 = 35 * n + 21 by omega, ez 21 (by omega) (by omega), show 35 * n + 16 + 5 * 2 + 0 = 35 * n + 26 by omega, ez 26 (by omega) (by omega), Int32.zero_add, Int32.add_zero, Int32.add_zero, Int32.add_zero]
  have hcn : ∀ c s, c < C → s < n → cnt (chn1 T C n set v d) c s = cnt T c s := fun c s hc hs => by
    unfold cnt
    rw [hwh s hs, hk 9 c (by omega) (by decide) (by decide) (by omega) (by omega), hk 6 c (by omega) (by decide) (by decide) (by omega) (by omega), hk 8 c (by omega) (by decide) (by decide) (by omega) (by omega), eo (35 * s + 2) (by omega)]
  have hnC : cnt (chn1 T C n set v d) C n = true := by
    unfold cnt
    rw [hwn, e2, hc 9 (by decide) (by decide) (by decide) (by decide) (by decide), hc 6 (by decide) (by decide) (by decide) (by decide) (by decide), hc 8 (by decide) (by decide) (by decide) (by decide) (by decide), k9, k6, k8, decide_eq_false n13', decide_eq_true rfl, decide_eq_true rfl]
    rfl
  have hnwC : nwT (chn1 T C n set v d) C (n + 1) = nI n := by
    rw [nwT, if_pos ⟨e0, hnC⟩]
  refine ⟨?_, ?_, fun s hsn => ⟨?_, ?_⟩, fun c hcC => ⟨?_, ?_⟩⟩
  · obtain ⟨g1, g2, g3, g4, g5, g6, g7, g8, g9, g10, g11⟩ := H.1
    refine ⟨by rw [ej 5 0 (by decide) (by decide) (by omega) (by omega) (by omega)]; exact k5, hC, e18, hn, by rw [hg 3 0 (by omega)]; exact g5, g6, by rw [hg 20 0 (by omega)]; exact g7, g8, by rw [hg 1 0 (by omega)]; exact g9, fun z hz => by rw [hg 4 z (by omega)]; exact g10 z hz, fun c hd => ?_⟩
    rw [hg 12 c (by omega), hg 13 c (by omega)]
    exact g11 c (by omega)
  · obtain ⟨g1, g2⟩ := H.2.1
    refine ⟨fun q hq => ?_, fun q r h1 h2 => ?_⟩
    · rw [hg 21 q (by omega), hg 22 q (by omega), hg 23 q (by omega)]
      obtain ⟨a, b, c⟩ := g1 q hq
      exact ⟨a.mono (by omega), b, c⟩
    · rw [hg 21 q (by omega), hg 21 r (by omega)]
      exact g2 q r h1 h2
  · by_cases e : s = n
    · subst e
      have z : ∀ k, k < 3 → ∀ j, j < 5 → lkT (chn1 T C s set v d) s k j = 0 := fun k hk j hj => by
        unfold lkT
        rw [show 35 * s + 16 + 5 * k + j = 35 * s + (16 + 5 * k + j) by omega]
        exact ez _ (by omega) (by omega)
      have o0 : ∀ b, 0 < b → okI 0 b := fun b hb => ⟨0, hb, nI_0.symm⟩
      refine ⟨by rw [e2]; exact hset, by rw [ez 3 (by omega) (by omega)]; exact o0 _ (by decide), fun k hk => ?_, ?_, ?_, fun p hp => ?_⟩
      · unfold IvL
        rw [z k hk 0 (by decide), z k hk 1 (by decide), z k hk 2 (by decide), z k hk 3 (by decide)]
        exact ⟨Int32.le_refl _, o0 _ (by decide), o0 _ (by decide), o0 _ (by decide), fun q => absurd rfl q⟩
      · rw [ez 31 (by omega) (by omega)]
        exact ⟨Int32.le_refl _, fun q => absurd rfl q⟩
      · rw [ez 32 (by omega) (by omega), e33, e34]
        exact fun _ => ⟨rfl, rfl, rfl⟩
      · rw [show 35 * s + 10 + p = 35 * s + (10 + p) by omega, ez _ (by omega) (by omega)]
        exact ⟨Int32.le_refl _, by rw [← nI_0]; exact nI_le (by omega) (by omega)⟩
    · exact (H.st (by omega)).congr (fun x h1 h2 => eo x (by omega))
  · by_cases e : s = n
    · subst e
      refine ⟨C, by omega, e0, ?_, fun _ => ?_⟩
      · rw [e1, hrk]
        exact rkT_congr (fun s' hs => kj 19 _ (by decide) (by decide) (by decide) (by decide) (by decide) (by decide) (by decide) (by decide) (by decide))
      · rw [hwn, hc 8 (by decide) (by decide) (by decide) (by decide) (by decide), k8, Int32.sub_self]
        exact ⟨by decide, by rw [show (0 : Int32).toInt = 0 from rfl]; omega⟩
    · obtain ⟨c, h1, h2, h3, h5⟩ := H.sr (show s < n by omega)
      refine ⟨c, by omega, by rw [h0 s (by omega)]; exact h2, by rw [eo _ (by omega), rkT_congr (fun s' hs' => h0 s' (by omega))]; exact h3, fun q => ?_⟩
      rw [hk 9 c (by omega) (by decide) (by decide) (by omega) (by omega)] at q
      rw [hwh s (by omega), hk 8 c (by omega) (by decide) (by decide) (by omega) (by omega)]
      exact h5 q
  · by_cases e : c = C
    · subst e
      unfold IvC
      rw [hc 6 (by decide) (by decide) (by decide) (by decide) (by decide), hc 9 (by decide) (by decide) (by decide) (by decide) (by decide), hc 10 (by decide) (by decide) (by decide) (by decide) (by decide), hc 26 (by decide) (by decide) (by decide) (by decide) (by decide), e24, e25, k6, k9, k10, k26, hnwC, rk_succ, hrk, rk_none hno, e0, if_pos rfl]
      exact ⟨hset, hs0, Or.inl rfl, fun _ => rfl, fun q => absurd rfl q, rfl, fun q => absurd q n13', fun _ => ⟨rfl, n, by omega, rfl⟩, fun q => absurd q (by decide), fun _ => rfl⟩
    · have hC' := H.ch (show c < C by omega)
      have hnw : nwT (chn1 T C n set v d) c (n + 1) = nwT T c n := by
        rw [nwT, if_neg (fun q => by rw [e0, nI_eq (by omega) (by omega)] at q; omega)]
        exact nwT_congr h0 (fun s hs _ => hcn c s (by omega) hs)
      unfold IvC at hC' ⊢
      rw [hk 6 c e (by decide) (by decide) (by omega) (by omega), hk 9 c e (by decide) (by decide) (by omega) (by omega), hk 10 c e (by decide) (by decide) (by omega) (by omega), hk 24 c e (by decide) (by decide) (by omega) (by omega), hk 25 c e (by decide) (by decide) (by omega) (by omega), hk 26 c e (by decide) (by decide) (by omega) (by omega), hk 11 c e (by decide) (by decide) (by omega) (by omega), hnw, rk_succ, hrk, e0, if_neg (by rw [nI_eq (by omega) (by omega)]; omega), nI_0, Int32.add_zero]
      refine ⟨hC'.1, hC'.2.1, hC'.2.2.1, hC'.2.2.2.1, fun q => ?_, hC'.2.2.2.2.2.1, hC'.2.2.2.2.2.2.1, fun q => ?_, hC'.2.2.2.2.2.2.2.2.1, hC'.2.2.2.2.2.2.2.2.2⟩
      · obtain ⟨b, h1, h2, h3⟩ := hC'.2.2.2.2.1 q
        exact ⟨b, by omega, h2, by rw [h0 b h1]; exact h3⟩
      · obtain ⟨h1, s, h2, h3⟩ := hC'.2.2.2.2.2.2.2.1 q
        exact ⟨h1, s, by omega, h3⟩
  · by_cases e : c = C
    · subst e
      obtain ⟨z12, z13⟩ := H.1.2.2.2.2.2.2.2.2.2.2 c (Nat.le_refl _)
      unfold IvE
      rw [hg 12 c (by omega), hg 13 c (by omega), hc 27 (by decide) (by decide) (by decide) (by decide) (by decide), z12, z13, k27]
      exact ⟨⟨0, by decide, nI_0.symm⟩, fun _ => ⟨rfl, rfl⟩, (fun k hk q => by rw [hasB_z hk] at q; cases q), ⟨Int32.le_refl _, fun q => absurd rfl q⟩, fun q => absurd rfl q, fun _ => rfl⟩
    · refine (H.he (show c < C by omega)).congr (fun j hjj => hk j c e (by omega) (by omega) (by omega) (by omega)) (fun k hk' => eo _ ?_)
      have := H.byn (show c < C by omega)
      omega
