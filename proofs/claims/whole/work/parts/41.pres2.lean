/-! what holds stays: shown, ended, one height more -/
theorem hasB_z {k : Nat} (hk : k < 3) : hasB 0 (nI k) = false := by rw [← nI_0]; exact hasB_0 hk
theorem Iv.shows {i : Nat} {T : TB} {C n Z hN c s : Nat} (H : Iv i T C n Z hN) (hc : c < C) (hs : s < n) (hsc : T 19 (35 * s + 0) = nI c) (h3 : ¬ T 9 c = nI 3) : Iv i (showsT T c s) C n Z hN := by
  have hC := H.ch hc
  have hE := H.he hc
  have h64 := H.n64
  obtain ⟨e12, e13⟩ := hE.2.1 h3
  have k9 : ∀ {j x : Nat}, j ≠ 9 ∧ j ≠ 10 ∧ j ≠ 11 ∧ j ≠ 26 → showsT T c s j x = T j x := fun h => showsT_j _ _ _ _ h
  have ho : ∀ j d, d ≠ c → showsT T c s j d = T j d := fun j d hd => by
    unfold showsT
    split
    · unfold up
      rw [if_neg (fun e => hd e.2), if_neg (fun e => hd e.2), if_neg (fun e => hd e.2), if_neg (fun e => hd e.2)]
    · split
      · unfold up
        rw [if_neg (fun e => hd e.2)]
      · rfl
  have p9 : ¬ showsT T c s 9 c = nI 3 := by
    unfold showsT
    split
    · rw [up_j _ _ _ _ (by decide), up_j _ _ _ _ (by decide), up_j _ _ _ _ (by decide), up_s]; decide
    · split
      · rw [up_j _ _ _ _ (by decide)]; exact h3
      · exact h3
  have hE' : IvE (showsT T c s) c := by
    unfold IvE at hE ⊢
    rw [k9 (j := 12) (by decide), k9 (j := 13) (by decide), k9 (j := 14) (by decide), k9 (j := 15) (by decide), k9 (j := 16) (by decide), k9 (j := 17) (by decide), k9 (j := 27) (by decide)]
    exact ⟨hE.1, fun _ => ⟨e12, e13⟩, (fun k hk q => by rw [e12, hasB_z hk] at q; cases q), hE.2.2.2.1, hE.2.2.2.2.1, hE.2.2.2.2.2⟩
  refine H.chan hc (fun j x hj => k9 (by omega)) (fun z hz => by rw [k9 (by decide)]; exact H.k4 hz) (fun j d hd _ => ho j d hd) ?_ hE' (fun _ => ⟨k9 (by decide), h3⟩)
  have hnw : nwT (showsT T c s) c n = nwT T c n := nwT_congr (fun s _ => k9 (by decide)) (fun s' _ _ => cnt_congr ⟨fun q => absurd q p9, fun q => absurd q h3⟩ (k9 (by decide)) (fun _ => k9 (by decide)) (fun x _ _ => k9 (by decide)))
  have hrk : rkT (showsT T c s) c n = rkT T c n := rkT_congr (fun s _ => k9 (by decide))
  unfold IvC at hC ⊢
  rw [k9 (j := 6) (by decide), k9 (j := 24) (by decide), k9 (j := 25) (by decide), hrk, hnw]
  have hby : ¬ showsT T c s 9 c = nI 1 → ∃ b, b < n ∧ showsT T c s 10 c = nI b ∧ showsT T c s 19 (35 * b + 0) = nI c := by
    intro q
    unfold showsT at q ⊢
    split
    · exact ⟨s, hs, by rw [up_j _ _ _ _ (by decide), up_j _ _ _ _ (by decide), up_s], by rw [up_j _ _ _ _ (by decide), up_j _ _ _ _ (by decide), up_j _ _ _ _ (by decide), up_j _ _ _ _ (by decide)]; exact hsc⟩
    · split
      · exact ⟨s, hs, up_s _ _ _ _, by rw [up_j _ _ _ _ (by decide)]; exact hsc⟩
      · rename_i e1 _
        exact hC.2.2.2.2.1 e1
  have h9 : showsT T c s 9 c = nI 1 ∨ showsT T c s 9 c = nI 2 ∨ showsT T c s 9 c = nI 3 := by
    unfold showsT
    split
    · right; left
      rw [up_j _ _ _ _ (by decide), up_j _ _ _ _ (by decide), up_j _ _ _ _ (by decide), up_s]
    · split
      · rw [up_j _ _ _ _ (by decide)]; exact hC.2.2.1
      · exact hC.2.2.1
  have h91 : ¬ showsT T c s 9 c = nI 1 := by
    unfold showsT
    split
    · rw [up_j _ _ _ _ (by decide), up_j _ _ _ _ (by decide), up_j _ _ _ _ (by decide), up_s]; decide
    · rename_i e1
      split
      · rw [up_j _ _ _ _ (by decide)]; exact e1
      · exact e1
  have h26 : (showsT T c s 9 c = nI 2 → showsT T c s 26 c = showsT T c s 11 c) ∧ (¬ showsT T c s 9 c = nI 2 → showsT T c s 26 c = 0) := by
    unfold showsT
    split
    · refine ⟨fun _ => by rw [up_s, up_j _ _ _ _ (by decide), up_s], fun q => absurd ?_ q⟩
      rw [up_j _ _ _ _ (by decide), up_j _ _ _ _ (by decide), up_j _ _ _ _ (by decide), up_s]
    · split
      · rw [up_j _ _ _ _ (by decide), up_j _ _ _ _ (by decide), up_j _ _ _ _ (by decide)]
        exact hC.2.2.2.2.2.2.2.2
      · exact hC.2.2.2.2.2.2.2.2
  exact ⟨hC.1, hC.2.1, h9, fun q => absurd q h91, hby, hC.2.2.2.2.2.1, fun q => absurd q p9, fun _ => hC.2.2.2.2.2.2.2.1 h3, h26.1, h26.2⟩
/-- what a lock adds to what is held when the channel ends -/
def hp1 (T : TB) (s k : Nat) : Int32 := if T 19 (35 * s + 16 + 5 * k + 0) ≤ 0 then 0 else if T 19 (35 * s + 16 + 5 * k + 4) ≤ T 2 0 then 0 else shiT k
theorem eLk_12 {T T1 : TB} {c s k : Nat} (h19 : ∀ x, T1 19 x = T 19 x) (h2 : T1 2 0 = T 2 0) : eLkT T1 c s k 12 c = T1 12 c + hp1 T s k := by
  unfold eLkT hp1
  rw [h19, h19, h2]
  split
  · rw [Int32.add_zero]
  · split
    · rw [paysT_12, up_s, Int32.add_zero, Int32.add_sub_cancel]
    · rw [up_s]
theorem endT_12 (T : TB) (c s : Nat) : endT T c s 12 c = nI 0 + hp1 T s 0 + hp1 T s 1 + hp1 T s 2 := by
  show eGhT (eGmT (endP T c s) c s) c s 12 c = _
  unfold eGhT eGmT
  rw [up_j _ _ _ _ (by decide), up_j _ _ _ _ (by decide), up_j _ _ _ _ (by decide), up_j _ _ _ _ (by decide), up_j _ _ _ _ (by decide), up_j _ _ _ _ (by decide), up_j _ _ _ _ (by decide), up_j _ _ _ _ (by decide)]
  unfold endP
  have g19 : ∀ x, (eShT (up (up (up T 9 c (nI 3)) 10 c (nI s)) 12 c (nI 0)) c s 6) 19 x = T 19 x := fun x => by rw [eShT_j _ _ _ _ _ (by decide) (by decide), up_j _ _ _ _ (by decide), up_j _ _ _ _ (by decide), up_j _ _ _ _ (by decide)]
  have g2 : (eShT (up (up (up T 9 c (nI 3)) 10 c (nI s)) 12 c (nI 0)) c s 6) 2 0 = T 2 0 := by rw [eShT_j _ _ _ _ _ (by decide) (by decide), up_j _ _ _ _ (by decide), up_j _ _ _ _ (by decide), up_j _ _ _ _ (by decide)]
  have l19 : ∀ (T1 : TB) k, (∀ x, T1 19 x = T 19 x) → ∀ x, eLkT T1 c s k 19 x = T 19 x := fun T1 k q x => by rw [eLkT_j _ _ _ _ _ (by decide) (by decide) (by decide)]; exact q x
  have l2 : ∀ (T1 : TB) k, T1 2 0 = T 2 0 → eLkT T1 c s k 2 0 = T 2 0 := fun T1 k q => by rw [eLkT_j _ _ _ _ _ (by decide) (by decide) (by decide)]; exact q
  rw [eLk_12 (l19 _ 1 (l19 _ 0 g19)) (l2 _ 1 (l2 _ 0 g2)), eLk_12 (l19 _ 0 g19) (l2 _ 0 g2), eLk_12 g19 g2, eShT_j _ _ _ _ _ (by decide) (by decide), up_s]
theorem bits_end : ∀ a b c : Bool, (∃ m : Fin 8, nI 0 + (if a then shiT 0 else 0) + (if b then shiT 1 else 0) + (if c then shiT 2 else 0) = nI m) ∧ (hasB (nI 0 + (if a then shiT 0 else 0) + (if b then shiT 1 else 0) + (if c then shiT 2 else 0)) (nI 0) = true → a = true) ∧ (hasB (nI 0 + (if a then shiT 0 else 0) + (if b then shiT 1 else 0) + (if c then shiT 2 else 0)) (nI 1) = true → b = true) ∧ (hasB (nI 0 + (if a then shiT 0 else 0) + (if b then shiT 1 else 0) + (if c then shiT 2 else 0)) (nI 2) = true → c = true) := by decide +kernel
theorem hp1_b (T : TB) (s k : Nat) : ∃ b : Bool, hp1 T s k = (if b then shiT k else 0) ∧ (b = true → 0 < lkT T s k 0) := by
  unfold hp1
  split
  · exact ⟨false, rfl, fun q => by cases q⟩
  · rename_i h
    split
    · exact ⟨false, rfl, fun q => by cases q⟩
    · exact ⟨true, rfl, fun _ => Int32.not_le.mp h⟩
theorem endT_o (T : TB) (c s : Nat) {j : Nat} (d : Nat) (hd : d ≠ c) (h0 : j ≠ 0) : endT T c s j d = T j d := by
  have hu : ∀ (T : TB) (a : Nat) (v : Int32), up T a c v j d = T j d := fun T a v => if_neg (fun e => hd e.2)
  have hl : ∀ (T1 : TB) k, eLkT T1 c s k j d = T1 j d := fun T1 k => by
    unfold eLkT
    split
    · rfl
    · split
      · rw [paysT_o _ _ _ _ _ _ hd h0, hu]
      · rw [hu]
  have hsh : ∀ (T1 : TB) m, eShT T1 c s m j d = T1 j d := fun T1 m => by
    induction m with
    | zero => rfl
    | succ m ih => rw [eShT, payT_0 _ _ _ _ _ hd h0, ih]
  unfold endT eGhT eGmT
  rw [hu, hu, hu, hu, hu, hu, hu, hu, hl, hl, hl, hsh, hu, hu, hu]
theorem endT_vals (T : TB) (c s : Nat) : endT T c s 9 c = nI 3 ∧ endT T c s 14 c = T 19 (35 * s + 32) ∧ endT T c s 15 c = T 19 (35 * s + 33) ∧ endT T c s 17 c = T 2 0 + T 7 c ∧ endT T c s 25 c = -1 ∧ endT T c s 26 c = 0 ∧ endT T c s 27 c = if T 19 (35 * s + 31) = 0 then 0 else T 2 0 + T 7 c := by
  have g2 : ∀ j x, j = 2 ∨ j = 7 ∨ j = 19 → endP T c s j x = T j x := fun j x hj => by
    unfold endP
    rw [eLkT_j _ _ _ _ _ (by omega) (by omega) (by omega), eLkT_j _ _ _ _ _ (by omega) (by omega) (by omega), eLkT_j _ _ _ _ _ (by omega) (by omega) (by omega), eShT_j _ _ _ _ _ (by omega) (by omega), up_j _ _ _ _ (by omega), up_j _ _ _ _ (by omega), up_j _ _ _ _ (by omega)]
  have g9 : endP T c s 9 c = nI 3 := by
    unfold endP
    rw [eLkT_j _ _ _ _ _ (by omega) (by omega) (by omega), eLkT_j _ _ _ _ _ (by omega) (by omega) (by omega), eLkT_j _ _ _ _ _ (by omega) (by omega) (by omega), eShT_j _ _ _ _ _ (by omega) (by omega), up_j _ _ _ _ (by omega), up_j _ _ _ _ (by omega), up_s]
  show eGhT (eGmT (endP T c s) c s) c s 9 c = _ ∧ eGhT (eGmT (endP T c s) c s) c s 14 c = _ ∧ eGhT (eGmT (endP T c s) c s) c s 15 c = _ ∧ eGhT (eGmT (endP T c s) c s) c s 17 c = _ ∧ eGhT (eGmT (endP T c s) c s) c s 25 c = _ ∧ eGhT (eGmT (endP T c s) c s) c s 26 c = _ ∧ eGhT (eGmT (endP T c s) c s) c s 27 c = _
  rw [← g2 19 (35 * s + 32) (by omega), ← g2 19 (35 * s + 33) (by omega), ← g2 19 (35 * s + 31) (by omega), ← g2 2 0 (by omega), ← g2 7 c (by omega)]
  generalize hE : endP T c s = E
  rw [hE] at g9
  refine ⟨?_, ?_, ?_, ?_, ?_, ?_, ?_⟩ <;> simp [eGhT, eGmT, up, g9]
theorem eSh_12 (T : TB) (c s m : Nat) : eShT T c s m 12 c = T 12 c := eShT_j _ _ _ _ _ (by decide) (by decide)
/-- a channel ends by a state of its own -/
theorem Iv.end_ {i : Nat} {T : TB} {C n Z hN c s : Nat} (H : Iv i T C n Z hN) (hc : c < C) (hs : s < n) (hsc : T 19 (35 * s + 0) = nI c) : Iv i (endT T c s) C n Z hN := by
  have hC := H.ch hc
  have h64 := H.n64
  have hS := H.st hs
  obtain ⟨v9, v14, v15, v17, v25, v26, v27⟩ := endT_vals T c s
  have k9 : ∀ {j x : Nat}, (j = 1 ∨ j = 2 ∨ j = 3 ∨ j = 4 ∨ j = 5 ∨ j = 6 ∨ j = 7 ∨ j = 11 ∨ j = 18 ∨ j = 19 ∨ j = 20 ∨ j = 21 ∨ j = 22 ∨ j = 23 ∨ j = 24) → endT T c s j x = T j x := fun h => endT_j _ _ _ _ h
  refine H.chan hc (fun j x hj => k9 (by omega)) (fun z hz => by rw [k9 (by decide)]; exact H.k4 hz) (fun j d hd hj => endT_o _ _ _ _ hd (by omega)) ?_ ?_ (fun q => absurd v9 q)
  · unfold IvC at hC ⊢
    rw [k9 (j := 6) (by decide), k9 (j := 24) (by decide), rkT_congr (fun s _ => k9 (by decide)), v9, v25, v26, endT_10]
    exact ⟨hC.1, hC.2.1, Or.inr (Or.inr rfl), fun q => absurd q (by decide), fun _ => ⟨s, hs, rfl, by rw [k9 (by decide)]; exact hsc⟩, hC.2.2.2.2.2.1, fun _ => rfl, fun q => absurd rfl q, fun q => absurd q (by decide), fun _ => rfl⟩
  · unfold IvE
    rw [v9, v14, v15, v17, v27, endT_10, endT_12, endT_13, endT_16, ix_nI (by omega)]
    obtain ⟨b0, e0, f0⟩ := hp1_b T s 0
    obtain ⟨b1, e1, f1⟩ := hp1_b T s 1
    obtain ⟨b2, e2, f2⟩ := hp1_b T s 2
    rw [e0, e1, e2]
    obtain ⟨⟨m, hm⟩, x0, x1, x2⟩ := bits_end b0 b1 b2
    refine ⟨by rw [hm]; exact ⟨m, m.isLt, rfl⟩, fun q => absurd rfl q, fun k hk q => ?_, hS.2.2.2.1, fun q => if_neg q, fun q => if_pos q⟩
    unfold lkT
    rw [k9 (by decide)]
    rcases (show k = 0 ∨ k = 1 ∨ k = 2 by omega) with rfl | rfl | rfl
    · exact f0 (x0 q)
    · exact f1 (x1 q)
    · exact f2 (x2 q)
theorem Iv.du {i : Nat} {T : TB} {C n Z hN c : Nat} (H : Iv i T C n Z hN) (hc : c < C) : Iv i (du1 T c) C n Z hN := by
  unfold du1
  split
  · rename_i q
    obtain ⟨b, h1, h2, h3⟩ := (H.ch hc).2.2.2.2.1 (by rw [q.1]; decide)
    have h64 := H.n64
    rw [h2, ix_nI (by omega)]
    exact H.end_ hc h1 h3
  · exact H
theorem Iv.dl {i : Nat} {T : TB} {C n Z hN c b k : Nat} (H : Iv i T C n Z hN) (hc : c < C) (hk : k < 3) : Iv i (dlT T c b k) C n Z hN := by
  unfold dlT
  split
  · rename_i q
    exact H.pays hc hk q.1
  · exact H
theorem Iv.dg {i : Nat} {T : TB} {C n Z hN c : Nat} (H : Iv i T C n Z hN) (hc : c < C) : Iv i (dgT T c) C n Z hN := by
  unfold dgT
  split
  · rename_i q
    exact H.win hc (fun e => by rw [e] at q; exact absurd q.1 (by decide))
  · exact H
theorem Iv.dues {i : Nat} {T : TB} {C n Z hN c : Nat} (H : Iv i T C n Z hN) (hc : c < C) : Iv i (duesI T c) C n Z hN := by
  unfold duesI duesT dl3
  exact ((((H.du hc).dl hc (by decide)).dl hc (by decide)).dl hc (by decide)).dg hc
theorem Iv.cw {i : Nat} {T : TB} {C n Z hN c b p k : Nat} (H : Iv i T C n Z hN) (hc : c < C) (hk : k < 3) : Iv i (cwT T c b p k) C n Z hN := by
  unfold cwT
  split
  · rename_i q
    refine H.clm hc hk ?_
    unfold canT at q
    rw [Bool.and_eq_true] at q
    exact q.1
  · exact H
theorem rem4_nI {k : Nat} (hk : k ≤ 20) : rem4 (nI k) = nI (k % 4) := pk_rem (by omega) (by decide) (by decide)
theorem Iv.ply {i : Nat} {T : TB} {C n Z hN c p : Nat} (H : Iv i T C n Z hN) (hc : c < C) : Iv i (plyT T c p) C n Z hN := by
  unfold plyT
  split
  · rename_i q
    have h13 : ¬ T 13 c = 0 := fun e => by rw [e] at q; exact absurd q.1 (by decide)
    obtain ⟨_, _, k, hk0, hk20, hk⟩ := (H.he hc).2.2.2.1.2 h13
    rw [hk, rem4_nI hk20]
    split
    · refine H.stp hc h13 (fun k' h1 h2 => ?_)
      rw [hk, nI_eq (by omega) (by omega)] at h2
      omega
    · refine H.stp hc h13 (fun k' h1 h2 => ?_)
      rw [hk, nI_eq (by omega) (by omega)] at h2
      have := Nat.mod_le k 4
      omega
  · exact H
theorem Iv.wat {i : Nat} {T : TB} {C n Z hN c p : Nat} (H : Iv i T C n Z hN) (hc : c < C) : Iv i (watI T c n p) C n Z hN := by
  have h64 := H.n64
  unfold watI watT
  split
  · rename_i q
    split
    · exact H
    · obtain ⟨h1, h2⟩ := H.nw hc (ph13 q)
      exact H.shows hc h2 (nwT_ch (by omega) (by omega) h1).2.1 (ph13 q)
  · split
    · rename_i q
      obtain ⟨h1, h2⟩ := H.nw hc (ph23 q)
      exact H.shows hc h2 (nwT_ch (by omega) (by omega) h1).2.1 (ph23 q)
    · unfold cw3
      exact (((H.cw hc (by decide)).cw hc (by decide)).cw hc (by decide)).ply hc
theorem Iv.duA {i : Nat} {T : TB} {C n Z hN : Nat} (H : Iv i T C n Z hN) {c : Nat} (hc : c ≤ C) : Iv i (duA T c) C n Z hN := by
  induction c with
  | zero => exact H
  | succ c ih => exact (ih (by omega)).dues (by omega)
theorem Iv.waA {i : Nat} {T : TB} {C n Z hN : Nat} (H : Iv i T C n Z hN) (p : Nat) {c : Nat} (hc : c ≤ C) : Iv i (waA T n p c) C n Z hN := by
  induction c with
  | zero => exact H
  | succ c ih =>
    show Iv i (if _ then _ else _) C n Z hN
    split
    · exact (ih (by omega)).wat (by omega)
    · exact ih (by omega)
theorem Iv.waN {i : Nat} {T : TB} {C n Z hN : Nat} (H : Iv i T C n Z hN) (p : Nat) : Iv i (waN T C n p) C n Z hN := by
  induction p with
  | zero => exact H
  | succ p ih =>
    show Iv i (waP _ C n p) C n Z hN
    unfold waP
    split
    · exact ih.waA p (Nat.le_refl _)
    · exact ih
theorem Iv.om {i : Nat} {T : TB} {C n Z hN : Nat} (H : Iv i T C n Z hN) : OmOK i T C n Z hN ∧ Iv i (omT T C n) C n Z hN :=
  ⟨⟨fun c hc => (H.high _).duA hc, fun p c hp hc => (((H.high _).duA (Nat.le_refl _)).waN p).waA p hc⟩, ((H.high _).duA (Nat.le_refl _)).waN 6⟩
theorem Iv.omN {i : Nat} {T : TB} {C n Z hN : Nat} (H : Iv i T C n Z hN) (k : Nat) : Iv i (omN T C n k) C n Z hN := by
  induction k with
  | zero => exact H
  | succ k ih => exact ih.om.2
