/-! a new channel in the class's world -/
def nGc (Γ : NM) (C a : Nat) : NM := fun k i => if k = 7 ∧ i = C then a else Γ k i
theorem nGc_o {Γ : NM} {C a k i : Nat} (h : ¬ (k = 7 ∧ i = C)) : nGc Γ C a k i = Γ k i := if_neg h
theorem CE.names7 {h : Hp} {Γ Γ' : NM} {T Tr : TB} {nh k i C : Nat} {c : AC} (hg : ∀ k i, ¬ (k = 7 ∧ i = C) → Γ' k i = Γ k i) (hv : vld T k i) (h3 : k ≠ 3) (hso : ∀ s, s < ix (T 18 0) → ix (T 19 (35 * s + 0)) < C) (hro : ∀ q, q < nh → ix (T 21 q) < C) (H : CE h Γ T Tr nh k i c) : CE h Γ' T Tr nh k i c := by
  have g : ∀ k i, k ≠ 7 → Γ' k i = Γ k i := fun k i hk => hg k i (fun e => hk e.1)
  have sr : ∀ v, sref Γ' v = sref Γ v := fun v => by unfold sref; rw [g 8 _ (by decide)]
  rcases k with _ | _ | _ | _ | _ | _ | _ | _ | _ | _ | _ | _ | _ | _ | _ | k
  · show c = ob 6 (scF Γ' T)
    rw [show c = ob 6 (scF Γ T) from H]
    unfold scF
    rw [g 1 0 (by decide), g 3 0 (by decide), g 4 0 (by decide), g 5 0 (by decide), g 6 0 (by decide)]
  · show c = ob 5 [.ref (Γ' 2 0)]
    rw [g 2 0 (by decide)]; exact H
  · exact (show c = _ from H)
  · exact absurd rfl h3
  · show c = ra 4 64 _
    rw [show c = ra 4 64 _ from H]
    congr 1; congr 1; congr 1
    funext q
    rw [g 8 q (by decide)]
  · exact (show c = _ from H)
  · obtain ⟨f, h1, h2⟩ := H
    refine ⟨f, h1, fun q hq => ?_⟩
    have := h2 q hq
    have hq2 := hro q hq
    unfold HpOK at this ⊢
    rw [hg 7 _ (by omega)]
    exact this
  · obtain ⟨gg, h1, h2⟩ := H
    refine ⟨gg, ?_, h2⟩
    rw [h1]
    unfold chF
    rw [sr, sr]
  · obtain ⟨gg, h1, h2⟩ := H
    have hi : i < ix (T 18 0) := by
      rcases hv with e | e | e | e | e <;> omega
    have hi2 := hso i hi
    refine ⟨gg, ?_, h2⟩
    rw [h1]
    unfold stF
    rw [hg 7 _ (by omega), g 9 i (by decide), g 11 i (by decide), g 13 i (by decide)]
  · show c = ob 5 [.ref (Γ' 10 i)]
    rw [g 10 i (by decide)]; exact H
  · exact H
  · show c = ob 5 [.ref (Γ' 12 i)]
    rw [g 12 i (by decide)]; exact H
  · exact H
  · exact H
  · show c = ob 7 (moF Γ' Tr)
    rw [show c = ob 7 (moF Γ Tr) from H]
    unfold moF
    simp only [show ∀ i, Γ' 15 i = Γ 15 i from fun i => g 15 i (by decide)]
  · exact (show c = ia (mlen i) (Tr i) from H)
theorem WD.newC {Γ : NM} {ow : Nat → Nat × Nat} {h h5 : Hp} {T T' Tr : TB} {nh C : Nat} (H : WD Γ ow h T Tr nh) (hC : T 5 0 = nI C) (hC8 : C < 8) (hso : ∀ s, s < ix (T 18 0) → ix (T 19 (35 * s + 0)) < C) (hro : ∀ q, q < nh → ix (T 21 q) < C)
    {a : Nat} {set d : Int32} (z : h a = none) (f0 : h5 a = some (ob 0 [.int (nI C), .int set, .int d, .int 0, .int (nI 1), .int 0, .null, .null, .int 0, .int 0, .null, .int 0]))
    (hold : ∀ q, h q ≠ none → q ≠ Γ 0 0 → q ≠ Γ 3 0 → h5 q = h q) (hsc : h5 (Γ 0 0) = some (ob 6 (scF Γ (up T 5 0 (nI (C + 1)))))) (hch : h5 (Γ 3 0) = some (ra 1 8 fun q => if q = C then some a else if q < C then some (Γ 7 q) else none))
    (t5 : T' 5 0 = nI (C + 1)) (t6 : T' 6 C = set) (t7 : T' 7 C = d) (t8 : T' 8 C = 0) (t9 : T' 9 C = nI 1) (t24 : T' 24 C = 0) (t25 : T' 25 C = -1) (t10 : T' 10 C = -1) (t26 : T' 26 C = 0) (t27 : T' 27 C = 0) (t12 : T 12 C = 0) (t13 : T 13 C = 0)
    (tj : ∀ j x, ¬ (j = 5 ∧ x = 0) → ¬ (x = C ∧ ((6 ≤ j ∧ j ≤ 10) ∨ (24 ≤ j ∧ j ≤ 27))) → T' j x = T j x) :
    ∃ ow', WD (nGc Γ C a) ow' h5 T' Tr nh := by
  have hix : ix (T 5 0) = C := by rw [hC, ix_nI (by omega)]
  have hne : ∀ k i, vld T k i → h (Γ k i) ≠ none := fun k i hv => by
    obtain ⟨x, h1, _⟩ := H.2 k i hv
    rw [h1]
    exact fun e => by cases e
  have nw : ∀ k i, vld T k i → Γ k i ≠ a := fun k i hv e => hne k i hv (by rw [e]; exact z)
  have kp : Kp h h5 := fun b ci fs hci ha => by
    have ni : ∀ k i, vld T k i → b ≠ Γ k i := fun k i hv e => by
      obtain ⟨x, h1, h2⟩ := H.2 k i hv
      rw [← e, ha] at h1
      exact h2.ni ci fs hci (Option.some.inj h1).symm
    rw [hold b (by rw [ha]; exact fun e => by cases e) (ni 0 0 (v0 (by decide))) (ni 3 0 (v0 (by decide)))]
    exact ha
  have hg : ∀ k i, ¬ (k = 7 ∧ i = C) → nGc Γ C a k i = Γ k i := fun k i q => nGc_o q
  have hv' : ∀ k i, vld T' k i → vld T k i ∨ (k = 7 ∧ i = C) := fun k i hv => by
    unfold vld at hv ⊢
    rw [t5, tj 18 0 (by omega) (by omega), ix_nI (by omega)] at hv
    rw [hix]
    omega
  have hvn : ∀ k i, vld T k i → ¬ (k = 7 ∧ i = C) := fun k i hv q => by
    unfold vld at hv
    rw [hix] at hv
    omega
  refine ⟨fun b => if b = a then (7, C) else ow b, fun k i hv => ?_, fun k i hv => ?_⟩
  · rcases hv' k i hv with q | ⟨rfl, rfl⟩
    · show (if nGc Γ C a k i = a then (7, C) else ow (nGc Γ C a k i)) = _
      rw [hg k i (hvn k i q), if_neg (nw k i q)]
      exact H.1 k i q
    · show (if nGc Γ i a 7 i = a then (7, i) else ow (nGc Γ i a 7 i)) = _
      rw [show nGc Γ i a 7 i = a from if_pos ⟨rfl, rfl⟩, if_pos rfl]
  · rcases hv' k i hv with q | ⟨rfl, rfl⟩
    · rw [hg k i (hvn k i q)]
      obtain ⟨x, h1, h2⟩ := H.2 k i q
      by_cases e0 : k = 0 ∧ i = 0
      · obtain ⟨rfl, rfl⟩ := e0
        refine ⟨_, hsc, ?_⟩
        show ob 6 _ = ob 6 _
        unfold scF
        rw [hg 1 0 (by omega), hg 3 0 (by omega), hg 4 0 (by omega), hg 5 0 (by omega), hg 6 0 (by omega), t5, tj 18 0 (by omega) (by omega), tj 3 0 (by omega) (by omega), tj 20 0 (by omega) (by omega), tj 2 0 (by omega) (by omega), tj 1 0 (by omega) (by omega), up_s, up_j _ _ _ _ (by decide), up_j _ _ _ _ (by decide), up_j _ _ _ _ (by decide), up_j _ _ _ _ (by decide), up_j _ _ _ _ (by decide)]
      · by_cases e3 : k = 3 ∧ i = 0
        · obtain ⟨rfl, rfl⟩ := e3
          refine ⟨_, hch, ?_⟩
          show ra 1 8 _ = ra 1 8 _
          congr 1; congr 1; congr 1
          funext y
          rw [t5, ix_nI (by omega)]
          by_cases ey : y = C
          · rw [if_pos ey, if_pos (by omega), ey, show nGc Γ C a 7 C = a from if_pos ⟨rfl, rfl⟩]
          · rw [if_neg ey]
            by_cases ey2 : y < C
            · rw [if_pos ey2, if_pos (by omega), hg 7 y (by omega)]
            · rw [if_neg ey2, if_neg (by omega)]
        · have hk3 : k ≠ 3 := fun e => by
            subst e
            unfold vld at q
            exact e3 ⟨rfl, by omega⟩
          have inj : ∀ k' i', vld T k' i' → ¬ (k = k' ∧ i = i') → Γ k i ≠ Γ k' i' := fun k' i' hv2 hne2 e => by
            have h1 := H.1 k i q
            rw [e, H.1 k' i' hv2] at h1
            exact hne2 ⟨(congrArg Prod.fst h1).symm, (congrArg Prod.snd h1).symm⟩
          refine ⟨x, by rw [hold _ (hne k i q) (inj 0 0 (v0 (by decide)) e0) (inj 3 0 (v0 (by decide)) e3)]; exact h1, ?_⟩
          refine ((h2.names7 hg q hk3 hso hro).congr (fun j y hd => tj j y (fun e => ?_) (fun e => ?_))).kp kp
          · unfold dp at hd
            unfold vld at q
            split at hd <;> omega
          · unfold dp at hd
            unfold vld at q
            rw [hix] at q
            split at hd <;> omega
    · rw [show nGc Γ i a 7 i = a from if_pos ⟨rfl, rfl⟩]
      refine ⟨_, f0, none, ?_, ?_⟩
      · unfold chF
        rw [t6, t7, t8, t9, t24, t25, t10, t26, t27, tj 12 i (by omega) (by omega), t12]
        rfl
      · rw [tj 13 i (by omega) (by omega), t13]
        exact ⟨fun _ => rfl, fun e => absurd rfl e⟩
/-- the table at the new channel -/
def chnC (T : TB) (C : Nat) (set v d : Int32) : TB := up (up (chn0 T C set v d) 8 C 0) 25 C (-1)
def dpk (T : TB) (n : Nat) (set v : Int32) : Nat → TB
  | 0 => T
  | k + 1 => dep1 (dpk T n set v k) n set v k
theorem dpk6 (T : TB) (n : Nat) (set v : Int32) : dpk T n set v 6 = dep6 T n set v := rfl
def cntk (set : Int32) : Nat → Int32
  | 0 => 0
  | k + 1 => if hasB set (nI k) = true then cntk set k + 1 else cntk set k
theorem cntk_all : ∀ g : Fin 64, cntk (nI g) 6 = sizeT (nI g) := by decide +kernel
theorem cntk_6 {set : Int32} (h : okI set 64) : cntk set 6 = sizeT set := by
  obtain ⟨k, h1, rfl⟩ := h
  exact cntk_all ⟨k, h1⟩
theorem dpk_j (T : TB) (n : Nat) (set v : Int32) (k : Nat) {j : Nat} (i : Nat) (h0 : j ≠ 0) (h19 : j ≠ 19) : dpk T n set v k j i = T j i := by
  induction k with
  | zero => rfl
  | succ k ih =>
    show dep1 _ _ _ _ _ j i = _
    unfold dep1
    split
    · rw [up_j _ _ _ _ h19, up_j _ _ _ _ h0, ih]
    · exact ih
theorem dpk_st (D : TB) (n C p : Nat) (s v : Int32) : up (up (up (up (up D 8 C s) 25 C (-1)) 0 p (D 0 p + -v)) 8 C (s + v)) 19 (35 * n + 4 + p) v = up (up (up (up D 0 p (D 0 p - v)) 19 (35 * n + 4 + p) v) 8 C (s + v)) 25 C (-1) := by
  rw [Int32.sub_eq_add_neg]
  funext j x
  unfold up
  grind
theorem zrT_up (T : TB) (n k a x : Nat) (w : Int32) (h : a ≠ 19) : zrT (up T a x w) n k = up (zrT T n k) a x w := by
  induction k with
  | zero => rfl
  | succ k ih =>
    show up (zrT (up T a x w) n k) 19 (35 * n + k) (nI 0) = up (up (zrT T n k) 19 (35 * n + k) (nI 0)) a x w
    rw [ih, up_comm _ _ _ _ _ h]
theorem rkT_up (T : TB) (c n a x : Nat) (w : Int32) (h : a ≠ 19) : rkT (up T a x w) c n = rkT T c n := by
  induction n with
  | zero => rfl
  | succ n ih => rw [rk_succ, rk_succ, ih, up_j _ _ _ _ (Ne.symm h)]
theorem blkT_up (T : TB) (c n a x : Nat) (w : Int32) (h : a ≠ 18 ∧ a ≠ 19 ∧ a ≠ 24) : blkT (up T a x w) c n = up (blkT T c n) a x w := by
  unfold blkT
  rw [zrT_up _ _ _ _ _ _ h.2.1, rkT_up _ _ _ _ _ _ h.2.1, up_j _ _ _ _ (Ne.symm h.2.2), up_comm _ _ _ _ _ h.2.1, up_comm _ _ _ _ _ h.2.1, up_comm _ _ _ _ _ h.2.1, up_comm _ _ _ _ _ h.2.1, up_comm _ _ _ _ _ h.1, up_comm _ _ _ _ _ h.2.2]
theorem chn_end (T : TB) (C n : Nat) {set v d : Int32} (hs : okI set 64) : up (up (up (up (dep6 (blkT (chn0 T C set v d) C n) n set v) 8 C (cntk set 6 * v)) 25 C (-1)) 19 (35 * n + 2) set) 25 C (nI n) = chn1 T C n set v d := by
  unfold chn1
  have e8 : dep6 (blkT (chn0 T C set v d) C n) n set v 8 C = cntk set 6 * v := by
    rw [← dpk6, dpk_j _ _ _ _ _ _ (by decide) (by decide), blkT_j _ _ _ _ (by decide), cntk_6 hs]
    unfold chn0
    rw [up_j _ _ _ _ (by decide), up_j _ _ _ _ (by decide), up_j _ _ _ _ (by decide), up_j _ _ _ _ (by decide), up_j _ _ _ _ (by decide), up_s]
  rw [← e8, up_same]
  funext j x
  unfold up
  grind