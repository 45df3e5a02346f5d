/-! each call keeps what holds between calls, second part -/
section KEEP2
variable {i : Nat} {T : TB} {C n Z hN : Nat}
theorem ff {b : Bool} (h : ¬ b = true) : b = false := by cases b; rfl; exact absurd rfl h
theorem k_tell (H : Iv i T C n Z hN) (z f t : Int32) : Iv1 (i + 1) (tellT T z f t).2 hN := by
  unfold tellT
  split
  · exact ⟨C, n, Z, H.succ⟩
  · split
    · exact ⟨C, n, Z, H.succ⟩
    · rename_i h1 h2
      obtain ⟨K, hK, rfl⟩ := oZ H (ntt (fun e => h1 (Or.inl e)))
      obtain ⟨P, hP, rfl⟩ := isPT_nI (ntt (fun e => h1 (Or.inr (Or.inr e))))
      have := H.Z16
      rw [ix_nI (by omega), ix_nI (by omega)]
      refine ⟨C, n, Z, (H.know K ?_).succ⟩
      obtain ⟨g, hg, e⟩ := H.k4 (z := K) (by omega)
      rw [e]
      have key : ∀ (g : Fin 64) (p : Fin 6), ∃ m : Fin 64, nI g ||| shiT p = nI m := by decide +kernel
      obtain ⟨m, hm⟩ := key ⟨g, hg⟩ ⟨P, hP⟩
      exact ⟨m.1, m.2, hm⟩
theorem k_change (H : Iv i T C n Z hN) (s f t v : Int32) : Iv1 (i + 1) (changeT T s f t v).2 hN := by
  by_cases q1 : isOfT T s f = true
  · by_cases q2 : isOfT T s t = true
    · obtain ⟨S, c, F, rfl, rfl, hS, hc, hF, hc0, hm⟩ := H.oOf q1
      obtain ⟨P, hP, rfl⟩ := Iv.oOfP q2
      have := H.n64
      have := H.C8
      rw [changeT_eq (by omega) (by omega) hc0 hF hP q1 q2]
      split
      · exact ⟨C, n, Z, H.succ⟩
      · split
        · exact ⟨C, n, Z, H.succ⟩
        · split
          · exact ⟨C, n, Z, H.succ⟩
          · rename_i h1 h2 h3
            exact ⟨C, n, Z, (H.chg hS hc0 (by omega) (ff h1) hF hP (fun e => h3 (Or.inl (by rw [e]))) v).succ⟩
    · unfold changeT
      rw [if_pos (Or.inr (ff q2))]
      exact ⟨C, n, Z, H.succ⟩
  · unfold changeT
    rw [if_pos (Or.inl (ff q1))]
    exact ⟨C, n, Z, H.succ⟩
theorem k_outs (H : Iv i T C n Z hN) (s p v : Int32) : Iv1 (i + 1) (outsT T s p v).2 hN := by
  by_cases q1 : isOfT T s p = true
  · obtain ⟨S, c, F, rfl, rfl, hS, hc, hF, hc0, hm⟩ := H.oOf q1
    have := H.n64
    have := H.C8
    rw [outsT_eq (by omega) (by omega) hc0 hF q1]
    split
    · exact ⟨C, n, Z, H.succ⟩
    · split
      · exact ⟨C, n, Z, H.succ⟩
      · split
        · exact ⟨C, n, Z, H.succ⟩
        · rename_i h1 h2 h3
          have h2 := ntt h2
          unfold inR at h2
          rw [Bool.and_eq_true] at h2
          exact ⟨C, n, Z, (H.outs hS hc0 (by omega) (fx_of (ff h1)).1 hF (by rw [← nI_0]; exact of_decide_eq_true h2.1) (of_decide_eq_true h2.2)).succ⟩
  · unfold outsT
    rw [if_pos (ff q1)]
    exact ⟨C, n, Z, H.succ⟩
theorem k_lock (H : Iv i T C n Z hN) (s f t v z e : Int32) : Iv1 (i + 1) (lockT T s f t v z e).2 hN := by
  by_cases q1 : isOfT T s f = true
  · by_cases q2 : isOfT T s t = true
    · by_cases q3 : isZT T z = true
      · obtain ⟨S, c, F, rfl, rfl, hS, hc, hF, hc0, hm⟩ := H.oOf q1
        obtain ⟨P, hP, rfl⟩ := Iv.oOfP q2
        obtain ⟨K, hK, rfl⟩ := oZ H q3
        have := H.n64
        have := H.C8
        have := H.Z16
        rw [lockT_eq (by omega) (by omega) hc0 hF hP (by omega) q1 q2 q3]
        split
        · exact ⟨C, n, Z, H.succ⟩
        · split
          · exact ⟨C, n, Z, H.succ⟩
          · split
            · exact ⟨C, n, Z, H.succ⟩
            · rename_i h1 h2 h3
              obtain ⟨k, hk, hep⟩ := ep_nI (fun e => h3 (Or.inr (Or.inr e)))
              obtain ⟨V, hV0, hV1, rfl⟩ := inRp (b := 60000) (by decide) (ntt (fun e => h2 (Or.inl e)))
              refine ⟨C, n, Z, ?_⟩
              rw [hep, ix_nI (by omega)]
              exact (H.lks hS hc0 (by omega) (fx_of (ff h1)).1 hF hP hK (by omega) hk hep (by rw [← nI_0, nI_leI (by omega) (by omega)]; omega)).succ
      · unfold lockT
        rw [if_pos (Or.inr (Or.inr (ff q3)))]
        exact ⟨C, n, Z, H.succ⟩
    · unfold lockT
      rw [if_pos (Or.inr (Or.inl (ff q2)))]
      exact ⟨C, n, Z, H.succ⟩
  · unfold lockT
    rw [if_pos (Or.inl (ff q1))]
    exact ⟨C, n, Z, H.succ⟩
theorem k_sign (H : Iv i T C n Z hN) (s p : Int32) : Iv1 (i + 1) (signT T n s p).2 hN := by
  by_cases q1 : isOfT T s p = true
  · obtain ⟨S, c, F, rfl, rfl, hS, hc, hF, hc0, hm⟩ := H.oOf q1
    have := H.n64
    have := H.C8
    rw [signT_eq (by omega) (by omega) hc0 hF q1]
    split
    · exact ⟨C, n, Z, H.succ⟩
    · split
      · exact ⟨C, n, Z, H.succ⟩
      · rename_i h1 h2
        exact ⟨C, n, Z, (H.sgn hS hc hc0 h1 hF hm (ff h2)).succ⟩
  · unfold signT
    rw [if_pos (ff q1)]
    exact ⟨C, n, Z, H.succ⟩
theorem k_show (H : Iv i T C n Z hN) (s p : Int32) : Iv1 (i + 1) (showT T s p).2 hN := by
  by_cases q1 : isOfT T s p = true
  · obtain ⟨S, c, F, rfl, rfl, hS, hc, hF, hc0, hm⟩ := H.oOf q1
    have := H.n64
    have := H.C8
    rw [showT_eq (by omega) (by omega) hc0 hF q1]
    split
    · exact ⟨C, n, Z, H.succ⟩
    · split
      · exact ⟨C, n, Z, H.succ⟩
      · rename_i h1 h2
        exact ⟨C, n, Z, (H.shows hc hS hc0 h1).succ⟩
  · unfold showT
    rw [if_pos (ff q1)]
    exact ⟨C, n, Z, H.succ⟩
theorem k_agree (H : Iv i T C n Z hN) (hi : i ≤ 100) (s p : Int32) : Iv1 (i + 1) (agreeT T n s p).2 hN := by
  by_cases q1 : isOfT T s p = true
  · obtain ⟨S, c, F, rfl, rfl, hS, hc, hF, hc0, hm⟩ := H.oOf q1
    have := H.n64
    have := H.C8
    rw [agreeT_eq (by omega) (by omega) hc0 hF q1]
    split
    · exact ⟨C, n, Z, H.succ⟩
    · split
      · exact ⟨C, n, Z, H.succ⟩
      · rename_i h1 h2
        have h1 : T 9 c = nI 1 := Classical.not_not.mp h1
        have hb : hasB (T 19 (35 * S + 3)) (nI F) = false := ff (fun e => h2 (Or.inr e))
        have hnw : nwT T c n = nI S := Classical.not_not.mp (fun e => h2 (Or.inl e))
        have hA := H.agr hS (by omega) hc0 (ph13 h1) hF hb
        show Iv1 (i + 1) (if _ then _ else _) hN
        split
        · refine ⟨C, n, Z, hA.to hi hS hc (by show up T 19 _ _ 19 _ = _; rw [up_i _ _ _ (by omega)]; exact hc0) h1 ?_⟩
          rw [nwT_congr (T := T) (fun s hs => by show up T 19 _ _ 19 _ = _; rw [up_i _ _ _ (by omega)]) (fun s hs hsc => ?_)]
          · exact hnw
          · have o : ∀ y, y ≠ 35 * S + 3 → agr0 T S F 19 y = T 19 y := fun y hy => up_i _ _ _ hy
            unfold cnt wholeT
            repeat rw [o _ (by omega)]
            rfl
        · exact ⟨C, n, Z, hA.succ⟩
  · unfold agreeT
    rw [if_pos (ff q1)]
    exact ⟨C, n, Z, H.succ⟩
theorem k_pay (H : Iv i T C n Z hN) (v e : Int32) : Iv1 (i + 1) (payT0 (up T 20 0 (nI 0)) n Z hN v e).2 0 := by
  obtain ⟨h0, hH⟩ := H.hop0
  generalize up T 20 0 (nI 0) = T0 at h0 hH
  unfold payT0
  split
  · exact ⟨C, n, Z, h0.succ⟩
  · split
    · exact ⟨C, n, Z, h0.succ⟩
    · rename_i h1 h2
      obtain ⟨V, hV0, hV1, rfl⟩ := inRp (b := 60000) (by decide) (ntt (fun e => h1 (Or.inl e)))
      have hpos : 0 < hN := by
        have : ¬ hN = 0 := fun e => h2 (Or.inl e)
        omega
      have hP := ((hH.1 (hN - 1) (by omega)).2.2.ix (by decide)).2
      have hA := h0.pyA H.h4 hH (v := nI V) (e := e) (by rw [← nI_0, nI_leI (by omega) (by omega)]; omega) (ff (fun e => h2 (Or.inr (Or.inr (Or.inr e))))) hpos (by
        have : ¬ 64 < n + hN := fun e => h2 (Or.inr (Or.inr (Or.inl e)))
        omega) (h0.Z_lt (fun e => h2 (Or.inr (Or.inl e)))) hP (endE T0 e (hN - 1)) hN (Nat.le_refl _)
      exact ⟨C, n + hN, Z + 1, hA.1.succ⟩
theorem k_step (H : Iv i T C n Z hN) (c p t : Int32) : Iv1 (i + 1) (stepT T c p t).2 hN := by
  unfold stepT
  split
  · exact ⟨C, n, Z, H.succ⟩
  · split
    · exact ⟨C, n, Z, H.succ⟩
    · split
      · exact ⟨C, n, Z, H.succ⟩
      · split
        · exact ⟨C, n, Z, H.succ⟩
        · rename_i h1 h2 h3 h4
          obtain ⟨c0, rfl, hc⟩ := H.oCT (ntt (fun e => h1 (Or.inl e)))
          obtain ⟨t0, ht0, ht3, rfl⟩ := inRp (b := 3) (by decide) (ntt h3)
          have := H.C8
          rw [ix_nI (by omega)] at h2 h4 ⊢
          refine ⟨C, n, Z, (H.stp hc h2 (fun k hk e => ?_)).succ⟩
          rcases Nat.lt_or_ge k t0 with a | a
          · exact absurd (by rw [e, nI_ltI (by omega) (by omega)]; exact a) (fun q => h4 (Or.inr q))
          · exact a
theorem k_move (H : Iv i T C n Z hN) (s t : Int32) : Iv1 (i + 1) (moveT T s t).2 hN := by
  by_cases q1 : isST T s = true
  · obtain ⟨S, c, rfl, hS, hc, hc0⟩ := H.oST q1
    have := H.n64
    have := H.C8
    rw [moveT_eq (by omega) (by omega) hc0 q1]
    split
    · exact ⟨C, n, Z, H.succ⟩
    · split
      · exact ⟨C, n, Z, H.succ⟩
      · split
        · exact ⟨C, n, Z, H.succ⟩
        · rename_i h1 h2 h3
          obtain ⟨t0, ht0, ht3, rfl⟩ := inRp (b := 3) (by decide) (ntt h2)
          exact ⟨C, n, Z, (H.mov hS hc0 (by omega) (fx_of (ff h1)).1 (fun e => h3 (Or.inl e)) (Int32.not_lt.mp (fun e => h3 (Or.inr e))) ht3).succ⟩
  · unfold moveT
    rw [if_pos (ff q1)]
    exact ⟨C, n, Z, H.succ⟩
theorem k_game (H : Iv i T C n Z hN) (s f t v e : Int32) : Iv1 (i + 1) (gameT T s f t v e).2 hN := by
  by_cases q1 : isOfT T s f = true
  · by_cases q2 : isOfT T s t = true
    · obtain ⟨S, c, F, rfl, rfl, hS, hc, hF, hc0, hm⟩ := H.oOf q1
      obtain ⟨P, hP, rfl⟩ := Iv.oOfP q2
      have := H.n64
      have := H.C8
      rw [gameT_eq (by omega) (by omega) hc0 hF hP q1 q2]
      split
      · exact ⟨C, n, Z, H.succ⟩
      · split
        · exact ⟨C, n, Z, H.succ⟩
        · split
          · exact ⟨C, n, Z, H.succ⟩
          · rename_i h1 h2 h3
            obtain ⟨V, hV0, hV1, hv⟩ := inRp (v := v) (b := 10000) (by decide) (ntt (fun e => h2 (Or.inl e)))
            obtain ⟨E, hE0, hE1, rfl⟩ := inRp (v := e) (b := 20) (by decide) (ntt (fun e => h2 (Or.inr e)))
            have g0 : T 19 (35 * S + 31) = 0 := Int32.le_antisymm (Int32.not_lt.mp (fun e => h3 (Or.inr (Or.inl e)))) (H.st hS).2.2.2.1.1
            exact ⟨C, n, Z, (H.gam hS hc0 (by omega) (fx_of (ff h1)).1 hF hP (fun e => h3 (Or.inl (by rw [e]))) hv ⟨hV0, hV1⟩ ⟨hE0, hE1⟩ g0).succ⟩
    · unfold gameT
      rw [if_pos (Or.inr (ff q2))]
      exact ⟨C, n, Z, H.succ⟩
  · unfold gameT
    rw [if_pos (Or.inl (ff q1))]
    exact ⟨C, n, Z, H.succ⟩
theorem k_unlock (H : Iv i T C n Z hN) (s k op : Int32) : Iv1 (i + 1) (unlockT T s k op).2 hN := by
  by_cases q1 : isST T s = true
  · obtain ⟨S, c, rfl, hS, hc, hc0⟩ := H.oST q1
    have := H.n64
    have := H.C8
    by_cases q2 : isLT T S k = true
    · have qk := q2
      unfold isLT at qk
      rw [Bool.and_eq_true] at qk
      obtain ⟨K, hK, rfl⟩ := inR_nI (b := 2) (by decide) qk.1
      rw [unlockT_eq (by omega) (by omega) hc0 (by omega) q1 q2]
      split
      · exact ⟨C, n, Z, H.succ⟩
      · rename_i h1
        have hl := (H.st hS).2.2.1 K (by omega)
        have hP : ix (if op = 0 then lkT T S K 1 else lkT T S K 2) < 6 := by
          split
          · exact (hl.2.1.ix (by decide)).2
          · exact (hl.2.2.1.ix (by decide)).2
        refine ⟨C, n, Z, ?_⟩
        rw [ulkT_eq]
        exact (H.lok hS hc0 (by omega) (fx_of (ff h1)).1 hP (by omega) ⟨by decide, ⟨0, by decide, rfl⟩, ⟨0, by decide, rfl⟩, ⟨0, by decide, rfl⟩, fun e => absurd nI_0 e⟩ (by rw [nI_0]; grind)).succ
    · unfold unlockT
      rw [if_pos (Or.inr (by rw [ix_nI (by omega)]; exact ff q2))]
      exact ⟨C, n, Z, H.succ⟩
  · unfold unlockT
    rw [if_pos (Or.inl (ff q1))]
    exact ⟨C, n, Z, H.succ⟩
end KEEP2
