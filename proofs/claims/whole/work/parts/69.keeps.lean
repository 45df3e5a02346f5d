/-! each call keeps what holds between calls -/
def Iv1 (i : Nat) (T : TB) (hN : Nat) : Prop := ∃ C n Z, Iv i T C n Z hN
section KEEP
variable {i : Nat} {T : TB} {C n Z hN : Nat}
theorem ntt {b : Bool} (h : ¬ b = false) : b = true := by cases b; exact absurd rfl h; rfl
theorem Iv.Z_lt (H : Iv i T C n Z hN) (h : ¬ T 3 0 = nI 16) : Z < 16 := by
  have := H.Z16
  rcases Nat.lt_or_ge Z 16 with e | e
  · exact e
  · exact absurd (by rw [H.z3, show Z = 16 by omega]) h
theorem Iv.n_lt (H : Iv i T C n Z hN) (h : ¬ T 18 0 = nI 64) : n < 64 := by
  have := H.n64
  rcases Nat.lt_or_ge n 64 with e | e
  · exact e
  · exact absurd (by rw [H.n18, show n = 64 by omega]) h
theorem Iv.C_lt (H : Iv i T C n Z hN) (h : ¬ T 5 0 = nI 8) : C < 8 := by
  have := H.C8
  rcases Nat.lt_or_ge C 8 with e | e
  · exact e
  · exact absurd (by rw [H.c5, show C = 8 by omega]) h
theorem k_secret (H : Iv i T C n Z hN) (p : Int32) : Iv1 (i + 1) (secretT T Z p).2 hN := by
  unfold secretT
  split
  · exact ⟨C, n, Z, H.succ⟩
  · split
    · exact ⟨C, n, Z, H.succ⟩
    · rename_i h1 h2
      obtain ⟨P, hP, rfl⟩ := isPT_nI (ntt h1)
      exact ⟨C, n, Z + 1, by rw [ix_nI (by omega)]; exact (H.sec (H.Z_lt h2) hP).succ⟩
theorem k_state (H : Iv i T C n Z hN) (c : Int32) : Iv1 (i + 1) (stateT T n c).2 hN := by
  unfold stateT
  split
  · exact ⟨C, n, Z, H.succ⟩
  · split
    · exact ⟨C, n, Z, H.succ⟩
    · split
      · exact ⟨C, n, Z, H.succ⟩
      · rename_i h1 h2 h3
        obtain ⟨c0, rfl, hc⟩ := H.oCT (ntt h1)
        have := H.C8
        rw [ix_nI (by omega)] at h2 ⊢
        exact ⟨C, n + 1, Z, (H.cop (H.n_lt h3) hc h2).succ⟩
theorem k_height (H : Iv i T C n Z hN) (k : Int32) : Iv1 (i + 1) (heightT T C n k).2 hN := by
  unfold heightT
  split
  · exact ⟨C, n, Z, H.succ⟩
  · exact ⟨C, n, Z, (H.omN _).succ⟩
theorem k_watch (H : Iv i T C n Z hN) (p : Int32) {on : Int32} (hon : on = nI 0 ∨ on = nI 1) : Iv1 (i + 1) (watchT T p on).2 hN := by
  unfold watchT
  split
  · exact ⟨C, n, Z, H.succ⟩
  · rename_i h1
    obtain ⟨P, hP, rfl⟩ := isPT_nI (ntt h1)
    exact ⟨C, n, Z, by rw [ix_nI (by omega)]; exact (H.wch (wch_ok H.w1 hP hon)).succ⟩
theorem k_hop (H : Iv i T C n Z hN) (c f t : Int32) : ∃ C n Z, Iv (i + 1) (hopT T hN c f t).2 C n Z (ix ((hopT T hN c f t).2 20 0)) := by
  have h4 := H.h4
  have e0 : ix (T 20 0) = hN := by rw [H.h20, ix_nI (by omega)]
  unfold hopT
  split
  · exact ⟨C, n, Z, by rw [e0]; exact H.succ⟩
  · split
    · exact ⟨C, n, Z, by rw [e0]; exact H.succ⟩
    · split
      · exact ⟨C, n, Z, by rw [e0]; exact H.succ⟩
      · rename_i h1 h2 h3
        have a1 : isCT T c = true := ntt (fun e => h1 (Or.inl e))
        have a2 : mbT T (ix c) f = true := ntt (fun e => h1 (Or.inr (Or.inl e)))
        have a3 : mbT T (ix c) t = true := ntt (fun e => h1 (Or.inr (Or.inr e)))
        obtain ⟨F, hF, rfl⟩ := mbT_nI a2
        obtain ⟨P, hP, rfl⟩ := mbT_nI a3
        obtain ⟨c0, rfl, hc⟩ := H.oCT a1
        have ha : agT T (nI c0) hN = false := by
          cases e : agT T (nI c0) hN with
          | false => rfl
          | true => exact absurd (Or.inr (Or.inr (Or.inl e))) h3
        have h4' : hN < 4 := by
          have : ¬ hN = 4 := fun e => h3 (Or.inl e)
          omega
        exact ⟨C, n, Z, by
          rw [show ix (hpT T hN (nI c0) (nI F) (nI P) 20 0) = hN + 1 by unfold hpT; rw [up_s, ix_nI (by omega)]]
          exact (H.hop hc hF hP h4' ha).succ⟩
theorem k_channel (H : Iv i T C n Z hN) (set v d : Int32) : Iv1 (i + 1) (channelT T C n set v d).2 hN := by
  unfold channelT
  split
  · exact ⟨C, n, Z, H.succ⟩
  · split
    · exact ⟨C, n, Z, H.succ⟩
    · split
      · exact ⟨C, n, Z, H.succ⟩
      · rename_i h1 h2 h3
        obtain ⟨g, hg, rfl⟩ := inR_nI (b := 63) (by decide) (ntt h1)
        have hs0 : nI g ≠ 0 := fun e => h2 (Or.inr (Or.inr (by rw [e]; decide)))
        exact ⟨C + 1, n + 1, Z, (H.chan1 (H.C_lt (fun e => h3 (Or.inl e))) (H.n_lt (fun e => h3 (Or.inr (Or.inl e)))) ⟨g, by omega, rfl⟩ hs0).succ⟩
theorem k_claim (H : Iv i T C n Z hN) (c k p : Int32) : Iv1 (i + 1) (claimT T c k p).2 hN := by
  unfold claimT
  split
  · exact ⟨C, n, Z, H.succ⟩
  · split
    · exact ⟨C, n, Z, H.succ⟩
    · split
      · rename_i h1 h2 h3
        have a1 : isCT T c = true := ntt (fun e => h1 (Or.inl e))
        have a2 : inR k (nI 0) (nI 2) = true := ntt (fun e => h1 (Or.inr (Or.inl e)))
        obtain ⟨c0, rfl, hc⟩ := H.oCT a1
        obtain ⟨K, hK, rfl⟩ := inR_nI (b := 2) (by decide) a2
        have := H.C8
        rw [ix_nI (by omega), ix_nI (by omega)] at h3 ⊢
        exact ⟨C, n, Z, (H.clm hc (show K < 3 by omega) (by unfold canT at h3; simp only [Bool.and_eq_true] at h3; first | exact h3.1 | exact h3.1.1 | exact h3.1.1.1 | exact h3.2.1)).succ⟩
      · exact ⟨C, n, Z, H.succ⟩
end KEEP
