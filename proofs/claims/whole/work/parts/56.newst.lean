/-! a new state in the class's world -/
def nGm (Γ : NM) (n a0 a1 b1 a2 b2 a3 : Nat) : NM := fun k i => if i = n ∧ 8 ≤ k ∧ k ≤ 13 then (if k = 8 then a0 else if k = 9 then a1 else if k = 10 then b1 else if k = 11 then a2 else if k = 12 then b2 else a3) else Γ k i
def nOw (ow : Nat → Nat × Nat) (n a0 a1 b1 a2 b2 a3 : Nat) : Nat → Nat × Nat := fun a => if a = a0 then (8, n) else if a = a1 then (9, n) else if a = b1 then (10, n) else if a = a2 then (11, n) else if a = b2 then (12, n) else if a = a3 then (13, n) else ow a
theorem nGm_o {Γ : NM} {n a0 a1 b1 a2 b2 a3 k i : Nat} (h : ¬ (i = n ∧ 8 ≤ k ∧ k ≤ 13)) : nGm Γ n a0 a1 b1 a2 b2 a3 k i = Γ k i := if_neg h
theorem nGm_n {Γ : NM} {n a0 a1 b1 a2 b2 a3 : Nat} : nGm Γ n a0 a1 b1 a2 b2 a3 8 n = a0 ∧ nGm Γ n a0 a1 b1 a2 b2 a3 9 n = a1 ∧ nGm Γ n a0 a1 b1 a2 b2 a3 10 n = b1 ∧ nGm Γ n a0 a1 b1 a2 b2 a3 11 n = a2 ∧ nGm Γ n a0 a1 b1 a2 b2 a3 12 n = b2 ∧ nGm Γ n a0 a1 b1 a2 b2 a3 13 n = a3 := by
  simp [nGm]
/-- a state's number, or none -/
def sOK (n : Nat) (v : Int32) : Prop := v = -1 ∨ okI v n
theorem sref_congr {Γ Γ' : NM} {n : Nat} {v : Int32} (hn : n ≤ 64) (h : sOK n v) (hG : ∀ s, s < n → Γ' 8 s = Γ 8 s) : sref Γ' v = sref Γ v := by
  rcases h with rfl | ⟨s, h1, rfl⟩
  · rfl
  · rw [sref_nI (by omega), sref_nI (by omega), hG s h1]
/-- a table's cell under other names of places -/
theorem CE.names {h : Hp} {Γ Γ' : NM} {T Tr : TB} {nh k i n C : Nat} {c : AC} (hn : n ≤ 64) (hg : ∀ k i, ¬ (i = n ∧ 8 ≤ k ∧ k ≤ 13) → Γ' k i = Γ k i) (h5 : ix (T 5 0) = C) (h18 : ix (T 18 0) = n) (hv : vld T k i) (hs : ∀ d, d < C → sOK n (T 25 d) ∧ sOK n (T 10 d)) (H : CE h Γ T Tr nh k i c) : CE h Γ' T Tr nh k i c := by
  have g0 : ∀ k i, k < 8 → Γ' k i = Γ k i := fun k i hk => hg k i (by omega)
  have g15 : ∀ i, Γ' 15 i = Γ 15 i := fun i => hg 15 i (by omega)
  have gs : ∀ k s, s < n → Γ' k s = Γ k s := fun k s hk => hg k s (by omega)
  rcases k with _ | _ | _ | _ | _ | _ | _ | _ | _ | _ | _ | _ | _ | _ | _ | k
  · show c = ob 6 (scF Γ' T)
    rw [show c = ob 6 (scF Γ T) from H]
    unfold scF
    rw [g0 1 0 (by decide), g0 3 0 (by decide), g0 4 0 (by decide), g0 5 0 (by decide), g0 6 0 (by decide)]
  · show c = ob 5 [.ref (Γ' 2 0)]
    rw [g0 2 0 (by decide)]; exact H
  · exact (show c = _ from H)
  · show c = ra 1 8 _
    rw [show c = ra 1 8 _ from H]
    congr 1; congr 1; congr 1
    funext q
    rw [g0 7 q (by decide)]
  · show c = ra 4 64 _
    rw [show c = ra 4 64 _ from H]
    congr 1; congr 1; congr 1
    funext q
    by_cases e : q < ix (T 18 0)
    · rw [if_pos e, if_pos e, gs 8 q (by omega)]
    · rw [if_neg e, if_neg e]
  · exact (show c = _ from H)
  · obtain ⟨f, h1, h2⟩ := H
    refine ⟨f, h1, fun q hq => ?_⟩
    have := h2 q hq
    unfold HpOK at this ⊢
    rw [g0 7 _ (by decide)]
    exact this
  · obtain ⟨g, h1, h2⟩ := H
    have hi : i < C := by
      rcases hv with e | e | e | e | e <;> omega
    refine ⟨g, ?_, h2⟩
    rw [h1]
    unfold chF
    rw [sref_congr hn (hs i hi).1 (fun s hs => gs 8 s hs), sref_congr hn (hs i hi).2 (fun s hs => gs 8 s hs)]
  · obtain ⟨g, h1, h2⟩ := H
    have hi : i < n := by
      rcases hv with e | e | e | e | e <;> omega
    refine ⟨g, ?_, h2⟩
    rw [h1]
    unfold stF
    rw [g0 7 _ (by decide), gs 9 i hi, gs 11 i hi, gs 13 i hi]
  · have hi : i < n := by
      rcases hv with e | e | e | e | e <;> omega
    show c = ob 5 [.ref (Γ' 10 i)]
    rw [gs 10 i hi]; exact H
  · exact H
  · have hi : i < n := by
      rcases hv with e | e | e | e | e <;> omega
    show c = ob 5 [.ref (Γ' 12 i)]
    rw [gs 12 i hi]; exact H
  · exact H
  · exact H
  · show c = ob 7 (moF Γ' Tr)
    rw [show c = ob 7 (moF Γ Tr) from H]
    unfold moF
    simp only [g15]
  · exact (show c = ia (mlen i) (Tr i) from H)
theorem WD.newS {Γ : NM} {ow : Nat → Nat × Nat} {h h5 : Hp} {T Tr : TB} {nh n c : Nat} (H : WD Γ ow h T Tr nh) (hn : T 18 0 = nI n) (hn64 : n < 64) (vc : c < ix (T 5 0)) (hs : ∀ d, d < ix (T 5 0) → sOK n (T 25 d) ∧ sOK n (T 10 d)) (hrk : T 24 c = rkT T c n) (hc8 : c < 8)
    {a0 a1 b1 a2 b2 a3 : Nat} (z0 : h a0 = none) (z1 : h a1 = none) (z2 : h b1 = none) (z3 : h a2 = none) (z4 : h b2 = none) (z5 : h a3 = none) (nb : b1 ≠ b2)
    (f0 : h5 a0 = some (ob 4 [.int (nI n), .ref (Γ 7 c), .int (T 24 c), .ref a1, .ref a2, .ref a3, .null, .int 0, .int 0])) (f1 : h5 a1 = some (ob 5 [.ref b1])) (f2 : h5 b1 = some (ia 6 fun _ => 0)) (f3 : h5 a2 = some (ob 5 [.ref b2])) (f4 : h5 b2 = some (ia 6 fun _ => 0)) (f5 : h5 a3 = some (ra 3 3 fun _ => none))
    (hold : ∀ q, h q ≠ none → q ≠ Γ 0 0 → q ≠ Γ 4 0 → q ≠ Γ 7 c → h5 q = h q) (hsc : h5 (Γ 0 0) = some (ob 6 (scF Γ (up T 18 0 (nI (n + 1)))))) (hst : h5 (Γ 4 0) = some (ra 4 64 fun q => if q = n then some a0 else if q < n then some (Γ 8 q) else none))
    (hch : ∃ g, h5 (Γ 7 c) = some (ob 0 (chF Γ (up T 24 c (T 24 c + nI 1)) g c)) ∧ GmOK h g (T 13 c) (T 14 c) (T 15 c) (T 16 c)) :
    ∃ Γ' ow', (∀ k i, vld T k i → Γ' k i = Γ k i) ∧ Γ' 8 n = a0 ∧ WD Γ' ow' h5 (blkT T c n) Tr nh ∧ Kp h h5 := by
  obtain ⟨e0, e1, e33, e34, ez, eo, e18, e24, ej⟩ := blkT_v T c n
  have hix : ix (T 18 0) = n := by rw [hn, ix_nI (by omega)]
  -- the new cells are apart
  have dis : a0 ≠ a1 ∧ a0 ≠ b1 ∧ a0 ≠ a2 ∧ a0 ≠ b2 ∧ a0 ≠ a3 ∧ a1 ≠ b1 ∧ a1 ≠ a2 ∧ a1 ≠ b2 ∧ a1 ≠ a3 ∧ b1 ≠ a2 ∧ b1 ≠ a3 ∧ a2 ≠ b2 ∧ a2 ≠ a3 ∧ b2 ≠ a3 := by
    refine ⟨?_, ?_, ?_, ?_, ?_, ?_, ?_, ?_, ?_, ?_, ?_, ?_, ?_, ?_⟩
    · intro e; rw [e, f1] at f0; cases f0
    · intro e; rw [e, f2] at f0; cases f0
    · intro e; rw [e, f3] at f0; cases f0
    · intro e; rw [e, f4] at f0; cases f0
    · intro e; rw [e, f5] at f0; cases f0
    · intro e; rw [e, f2] at f1; cases f1
    · intro e; rw [e, f3] at f1
      have := Option.some.inj f1
      simp only [ob, Sum.inl.injEq, Prod.mk.injEq, List.cons.injEq, Value.ref.injEq] at this
      exact nb this.2.1.symm
    · intro e; rw [e, f4] at f1; cases f1
    · intro e; rw [e, f5] at f1; cases f1
    · intro e; rw [e, f3] at f2; cases f2
    · intro e; rw [e, f5] at f2; cases f2
    · intro e; rw [e, f4] at f3; cases f3
    · intro e; rw [e, f5] at f3; cases f3
    · intro e; rw [e, f5] at f4; cases f4
  obtain ⟨d1, d2, d3, d4, d5, d6, d7, d8, d9, d10, d11, d12, d13, d14⟩ := dis
  have hne : ∀ k i, vld T k i → h (Γ k i) ≠ none := fun k i hv => by
    obtain ⟨x, h1, _⟩ := H.2 k i hv
    rw [h1]
    exact fun e => by cases e
  have nw : ∀ k i, vld T k i → ∀ a, h a = none → Γ k i ≠ a := fun k i hv a ha e => hne k i hv (by rw [e]; exact ha)
  have v0' : vld T 0 0 := v0 (by decide)
  have v4' : vld T 4 0 := v0 (by decide)
  have v7' : vld T 7 c := v7 vc
  have kp : Kp h h5 := fun a ci fs hci ha => by
    have ni : ∀ k i, vld T k i → a ≠ Γ k i := fun k i hv e => by
      obtain ⟨x, h1, h2⟩ := H.2 k i hv
      rw [← e, ha] at h1
      exact h2.ni ci fs hci (Option.some.inj h1).symm
    rw [hold a (by rw [ha]; exact fun e => by cases e) (ni 0 0 v0') (ni 4 0 v4') (ni 7 c v7')]
    exact ha
  have hg : ∀ k i, ¬ (i = n ∧ 8 ≤ k ∧ k ≤ 13) → nGm Γ n a0 a1 b1 a2 b2 a3 k i = Γ k i := fun k i q => nGm_o q
  have hvn : ∀ k i, vld T k i → ¬ (i = n ∧ 8 ≤ k ∧ k ≤ 13) := fun k i hv q => by
    rcases hv with e | e | e | e | e <;> omega
  have hv' : ∀ k i, vld (blkT T c n) k i → vld T k i ∨ (i = n ∧ 8 ≤ k ∧ k ≤ 13) := fun k i hv => by
    unfold vld at hv ⊢
    rw [e18, ej 5 0 (by decide) (by omega) (by omega), ix_nI (by omega)] at hv
    rw [hix]
    omega
  obtain ⟨n0, n1, n2, n3, n4, n5⟩ := nGm_n (Γ := Γ) (n := n) (a0 := a0) (a1 := a1) (b1 := b1) (a2 := a2) (b2 := b2) (a3 := a3)
  -- what an old place's cell is now
  have old : ∀ k i x, vld T k i → CE h Γ T Tr nh k i x → (∀ j y, dp k i j y → blkT T c n j y = T j y) → CE h5 (nGm Γ n a0 a1 b1 a2 b2 a3) (blkT T c n) Tr nh k i x := fun k i x hv hx hd =>
    ((hx.names (Nat.le_of_lt hn64) hg rfl hix hv hs).congr hd).kp kp
  refine ⟨nGm Γ n a0 a1 b1 a2 b2 a3, nOw ow n a0 a1 b1 a2 b2 a3, fun k i hv => hg k i (hvn k i hv), n0, ⟨fun k i hv => ?_, fun k i hv => ?_⟩, kp⟩
  · rcases hv' k i hv with q | ⟨rfl, q1, q2⟩
    · rw [hg k i (hvn k i q)]
      unfold nOw
      rw [if_neg (nw k i q _ z0), if_neg (nw k i q _ z1), if_neg (nw k i q _ z2), if_neg (nw k i q _ z3), if_neg (nw k i q _ z4), if_neg (nw k i q _ z5)]
      exact H.1 k i q
    · rcases (show k = 8 ∨ k = 9 ∨ k = 10 ∨ k = 11 ∨ k = 12 ∨ k = 13 by omega) with rfl | rfl | rfl | rfl | rfl | rfl
      · rw [n0]; exact if_pos rfl
      · rw [n1]; unfold nOw; rw [if_neg d1.symm, if_pos rfl]
      · rw [n2]; unfold nOw; rw [if_neg d2.symm, if_neg d6.symm, if_pos rfl]
      · rw [n3]; unfold nOw; rw [if_neg d3.symm, if_neg d7.symm, if_neg d10.symm, if_pos rfl]
      · rw [n4]; unfold nOw; rw [if_neg d4.symm, if_neg d8.symm, if_neg nb.symm, if_neg d12.symm, if_pos rfl]
      · rw [n5]; unfold nOw; rw [if_neg d5.symm, if_neg d9.symm, if_neg d11.symm, if_neg d13.symm, if_neg d14.symm, if_pos rfl]
  · rcases hv' k i hv with q | ⟨rfl, q1, q2⟩
    · rw [hg k i (hvn k i q)]
      obtain ⟨x, h1, h2⟩ := H.2 k i q
      by_cases a : k = 0 ∧ i = 0
      · obtain ⟨rfl, rfl⟩ := a
        refine ⟨_, hsc, ?_⟩
        show ob 6 _ = ob 6 _
        unfold scF
        rw [hg 1 0 (by omega), hg 3 0 (by omega), hg 4 0 (by omega), hg 5 0 (by omega), hg 6 0 (by omega), e18, ej 5 0 (by decide) (by omega) (by omega), ej 3 0 (by decide) (by omega) (by omega), ej 20 0 (by decide) (by omega) (by omega), ej 2 0 (by decide) (by omega) (by omega), ej 1 0 (by decide) (by omega) (by omega), up_s, up_j _ _ _ _ (by decide), up_j _ _ _ _ (by decide), up_j _ _ _ _ (by decide), up_j _ _ _ _ (by decide), up_j _ _ _ _ (by decide)]
      · by_cases b : k = 4 ∧ i = 0
        · obtain ⟨rfl, rfl⟩ := b
          refine ⟨_, hst, ?_⟩
          show ra 4 64 _ = ra 4 64 _
          congr 1; congr 1; congr 1
          funext y
          rw [e18, ix_nI (by omega)]
          by_cases ey : y = n
          · rw [if_pos ey, if_pos (by omega), ey, n0]
          · rw [if_neg ey]
            by_cases ey2 : y < n
            · rw [if_pos ey2, if_pos (by omega), hg 8 y (by omega)]
            · rw [if_neg ey2, if_neg (by omega)]
        · by_cases d : k = 7 ∧ i = c
          · obtain ⟨rfl, rfl⟩ := d
            obtain ⟨g, g1, g2⟩ := hch
            refine ⟨_, g1, g, ?_, ?_⟩
            · unfold chF
              have j : ∀ j, j ≠ 19 → j ≠ 18 → j ≠ 24 → blkT T i n j i = T j i := fun j x y z => ej j i x (fun e => y e.1) (fun e => z e.1)
              rw [e24, j 6 (by decide) (by decide) (by decide), j 7 (by decide) (by decide) (by decide), j 8 (by decide) (by decide) (by decide), j 9 (by decide) (by decide) (by decide), j 25 (by decide) (by decide) (by decide), j 10 (by decide) (by decide) (by decide), j 26 (by decide) (by decide) (by decide), j 12 (by decide) (by decide) (by decide), j 27 (by decide) (by decide) (by decide)]
              rw [up_s, up_j _ _ _ _ (by decide), up_j _ _ _ _ (by decide), up_j _ _ _ _ (by decide), up_j _ _ _ _ (by decide), up_j _ _ _ _ (by decide), up_j _ _ _ _ (by decide), up_j _ _ _ _ (by decide), up_j _ _ _ _ (by decide), up_j _ _ _ _ (by decide)]
              rw [sref_congr (Nat.le_of_lt hn64) (hs i vc).1 (fun s hs' => hg 8 s (by omega)), sref_congr (Nat.le_of_lt hn64) (hs i vc).2 (fun s hs' => hg 8 s (by omega))]
            · rw [ej 13 i (by decide) (by omega) (by omega), ej 14 i (by decide) (by omega) (by omega), ej 15 i (by decide) (by omega) (by omega), ej 16 i (by decide) (by omega) (by omega)]
              exact g2.kp kp
          · have a' : Γ k i ≠ Γ 0 0 := H.ne v0' q a
            have b' : Γ k i ≠ Γ 4 0 := H.ne v4' q b
            have d' : Γ k i ≠ Γ 7 c := H.ne v7' q d
            refine ⟨x, by rw [hold _ (hne k i q) a' b' d']; exact h1, old k i x q h2 (fun j y hd => ?_)⟩
            have hq := q
            unfold vld at hq
            rw [hix] at hq
            by_cases j19 : j = 19
            · subst j19
              refine eo y (fun ey => ?_)
              unfold dp at hd
              split at hd <;> omega
            · refine ej j y j19 (fun e => ?_) (fun e => ?_)
              · unfold dp at hd
                split at hd <;> omega
              · unfold dp at hd
                split at hd <;> omega
    · have row : ∀ x, 2 ≤ x → x < 33 → blkT T c i 19 (35 * i + x) = 0 := fun x h1 h2 => by rw [ez x h1 h2, nI_0]
      rcases (show k = 8 ∨ k = 9 ∨ k = 10 ∨ k = 11 ∨ k = 12 ∨ k = 13 by omega) with rfl | rfl | rfl | rfl | rfl | rfl
      · rw [n0]
        refine ⟨_, f0, none, ?_, ⟨fun _ => rfl, fun q => absurd (row 31 (by decide) (by decide)) q⟩⟩
        unfold stF
        rw [e0, e1, row 2 (by decide) (by decide), row 3 (by decide) (by decide), ix_nI (by omega), hg 7 c (by omega), n1, n3, n5, hrk]
        rfl
      · rw [n1]
        exact ⟨_, f1, by show _ = ob 5 [.ref _]; rw [n2]⟩
      · rw [n2]
        exact ⟨_, f2, _, rfl, fun p hp => by rw [show 35 * i + 4 + p = 35 * i + (4 + p) by omega, row _ (by omega) (by omega)]⟩
      · rw [n3]
        exact ⟨_, f3, by show _ = ob 5 [.ref _]; rw [n4]⟩
      · rw [n4]
        exact ⟨_, f4, _, rfl, fun p hp => by rw [show 35 * i + 10 + p = 35 * i + (10 + p) by omega, row _ (by omega) (by omega)]⟩
      · rw [n5]
        refine ⟨_, f5, _, rfl, fun k hk => ⟨fun _ => rfl, fun q => absurd ?_ q⟩⟩
        unfold lkT
        rw [show 35 * i + 16 + 5 * k + 0 = 35 * i + (16 + 5 * k + 0) by omega, row _ (by omega) (by omega)]
