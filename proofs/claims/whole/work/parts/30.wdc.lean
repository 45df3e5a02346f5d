/-! the class's world: what each place reads of the table, looking and writing -/
/-- the place (k, i) reads the number (j, x) -/
def dp (k i j x : Nat) : Prop := match k with
  | 0 => x = 0 ∧ (j = 1 ∨ j = 2 ∨ j = 3 ∨ j = 5 ∨ j = 18 ∨ j = 20)
  | 2 => j = 0
  | 3 => j = 5 ∧ x = 0
  | 4 => j = 18 ∧ x = 0
  | 5 => j = 4
  | 6 => j = 21 ∨ j = 22 ∨ j = 23
  | 7 => x = i ∧ ((6 ≤ j ∧ j ≤ 10) ∨ (12 ≤ j ∧ j ≤ 16) ∨ (24 ≤ j ∧ j ≤ 27))
  | 8 => j = 19 ∧ ((35 * i ≤ x ∧ x < 35 * i + 4) ∨ (35 * i + 31 ≤ x ∧ x < 35 * i + 35))
  | 10 => j = 19 ∧ 35 * i + 4 ≤ x ∧ x < 35 * i + 10
  | 12 => j = 19 ∧ 35 * i + 10 ≤ x ∧ x < 35 * i + 16
  | 13 => j = 19 ∧ 35 * i + 16 ≤ x ∧ x < 35 * i + 31
  | _ => False
set_option maxRecDepth 100000 in
theorem CE.cg0 {h : Hp} {Γ : NM} {T T' Tr : TB} {nh i : Nat} {c : AC} (ho : ∀ j x, dp 0 i j x → T' j x = T j x) (H : CE h Γ T Tr nh 0 i c) : CE h Γ T' Tr nh 0 i c := by
  show c = _
  rw [show c = _ from H]
  unfold scF
  rw [ho 5 0 ⟨rfl, by omega⟩, ho 18 0 ⟨rfl, by omega⟩, ho 3 0 ⟨rfl, by omega⟩, ho 20 0 ⟨rfl, by omega⟩, ho 2 0 ⟨rfl, by omega⟩, ho 1 0 ⟨rfl, by omega⟩]
set_option maxRecDepth 100000 in
theorem CE.cg2 {h : Hp} {Γ : NM} {T T' Tr : TB} {nh i : Nat} {c : AC} (ho : ∀ j x, dp 2 i j x → T' j x = T j x) (H : CE h Γ T Tr nh 2 i c) : CE h Γ T' Tr nh 2 i c := by
  show c = _
  rw [show c = _ from H, show T' 0 = T 0 from funext fun x => ho 0 x rfl]
set_option maxRecDepth 100000 in
theorem CE.cg3 {h : Hp} {Γ : NM} {T T' Tr : TB} {nh i : Nat} {c : AC} (ho : ∀ j x, dp 3 i j x → T' j x = T j x) (H : CE h Γ T Tr nh 3 i c) : CE h Γ T' Tr nh 3 i c := by
  show c = _
  rw [show c = _ from H, ho 5 0 ⟨rfl, rfl⟩]
set_option maxRecDepth 100000 in
theorem CE.cg4 {h : Hp} {Γ : NM} {T T' Tr : TB} {nh i : Nat} {c : AC} (ho : ∀ j x, dp 4 i j x → T' j x = T j x) (H : CE h Γ T Tr nh 4 i c) : CE h Γ T' Tr nh 4 i c := by
  show c = _
  rw [show c = _ from H, ho 18 0 ⟨rfl, rfl⟩]
set_option maxRecDepth 100000 in
theorem CE.cg5 {h : Hp} {Γ : NM} {T T' Tr : TB} {nh i : Nat} {c : AC} (ho : ∀ j x, dp 5 i j x → T' j x = T j x) (H : CE h Γ T Tr nh 5 i c) : CE h Γ T' Tr nh 5 i c := by
  show c = _
  rw [show c = _ from H, show T' 4 = T 4 from funext fun x => ho 4 x rfl]
set_option maxRecDepth 100000 in
theorem CE.cg6 {h : Hp} {Γ : NM} {T T' Tr : TB} {nh i : Nat} {c : AC} (ho : ∀ j x, dp 6 i j x → T' j x = T j x) (H : CE h Γ T Tr nh 6 i c) : CE h Γ T' Tr nh 6 i c := by
  obtain ⟨f, h1, h2⟩ := H
  refine ⟨f, h1, fun q hq => ?_⟩
  have := h2 q hq
  unfold HpOK at this ⊢
  rw [ho 21 q (Or.inl rfl), ho 22 q (Or.inr (Or.inl rfl)), ho 23 q (Or.inr (Or.inr rfl))]
  exact this
set_option maxRecDepth 100000 in
theorem CE.cg7 {h : Hp} {Γ : NM} {T T' Tr : TB} {nh i : Nat} {c : AC} (ho : ∀ j x, dp 7 i j x → T' j x = T j x) (H : CE h Γ T Tr nh 7 i c) : CE h Γ T' Tr nh 7 i c := by
  obtain ⟨g, h1, h2⟩ := H
  refine ⟨g, ?_, ?_⟩
  · rw [h1]
    unfold chF
    rw [ho 6 i ⟨rfl, by omega⟩, ho 7 i ⟨rfl, by omega⟩, ho 8 i ⟨rfl, by omega⟩, ho 9 i ⟨rfl, by omega⟩, ho 24 i ⟨rfl, by omega⟩, ho 25 i ⟨rfl, by omega⟩, ho 10 i ⟨rfl, by omega⟩, ho 26 i ⟨rfl, by omega⟩, ho 12 i ⟨rfl, by omega⟩, ho 27 i ⟨rfl, by omega⟩]
  · rw [ho 13 i ⟨rfl, by omega⟩, ho 14 i ⟨rfl, by omega⟩, ho 15 i ⟨rfl, by omega⟩, ho 16 i ⟨rfl, by omega⟩]
    exact h2
set_option maxRecDepth 100000 in
theorem CE.cg8 {h : Hp} {Γ : NM} {T T' Tr : TB} {nh i : Nat} {c : AC} (ho : ∀ j x, dp 8 i j x → T' j x = T j x) (H : CE h Γ T Tr nh 8 i c) : CE h Γ T' Tr nh 8 i c := by
  obtain ⟨g, h1, h2⟩ := H
  refine ⟨g, ?_, ?_⟩
  · rw [h1]
    unfold stF
    rw [ho 19 (35 * i + 0) ⟨rfl, by omega⟩, ho 19 (35 * i + 1) ⟨rfl, by omega⟩, ho 19 (35 * i + 2) ⟨rfl, by omega⟩, ho 19 (35 * i + 3) ⟨rfl, by omega⟩]
  · rw [ho 19 (35 * i + 31) ⟨rfl, by omega⟩, ho 19 (35 * i + 32) ⟨rfl, by omega⟩, ho 19 (35 * i + 33) ⟨rfl, by omega⟩, ho 19 (35 * i + 34) ⟨rfl, by omega⟩]
    exact h2
set_option maxRecDepth 100000 in
theorem CE.cg10 {h : Hp} {Γ : NM} {T T' Tr : TB} {nh i : Nat} {c : AC} (ho : ∀ j x, dp 10 i j x → T' j x = T j x) (H : CE h Γ T Tr nh 10 i c) : CE h Γ T' Tr nh 10 i c := by
  obtain ⟨f, h1, h2⟩ := H
  exact ⟨f, h1, fun p hp => by rw [ho 19 (35 * i + 4 + p) ⟨rfl, by omega, by omega⟩]; exact h2 p hp⟩
set_option maxRecDepth 100000 in
theorem CE.cg12 {h : Hp} {Γ : NM} {T T' Tr : TB} {nh i : Nat} {c : AC} (ho : ∀ j x, dp 12 i j x → T' j x = T j x) (H : CE h Γ T Tr nh 12 i c) : CE h Γ T' Tr nh 12 i c := by
  obtain ⟨f, h1, h2⟩ := H
  exact ⟨f, h1, fun p hp => by rw [ho 19 (35 * i + 10 + p) ⟨rfl, by omega, by omega⟩]; exact h2 p hp⟩
set_option maxRecDepth 100000 in
theorem CE.cg13 {h : Hp} {Γ : NM} {T T' Tr : TB} {nh i : Nat} {c : AC} (ho : ∀ j x, dp 13 i j x → T' j x = T j x) (H : CE h Γ T Tr nh 13 i c) : CE h Γ T' Tr nh 13 i c := by
  obtain ⟨f, h1, h2⟩ := H
  refine ⟨f, h1, fun k hk => ?_⟩
  have := h2 k hk
  unfold lkT at this ⊢
  rw [ho 19 (35 * i + 16 + 5 * k + 0) ⟨rfl, by omega, by omega⟩, ho 19 (35 * i + 16 + 5 * k + 1) ⟨rfl, by omega, by omega⟩, ho 19 (35 * i + 16 + 5 * k + 2) ⟨rfl, by omega, by omega⟩, ho 19 (35 * i + 16 + 5 * k + 3) ⟨rfl, by omega, by omega⟩, ho 19 (35 * i + 16 + 5 * k + 4) ⟨rfl, by omega, by omega⟩]
  exact this
theorem CE.congr {h : Hp} {Γ : NM} {T T' Tr : TB} {nh k i : Nat} {c : AC} (ho : ∀ j x, dp k i j x → T' j x = T j x) (H : CE h Γ T Tr nh k i c) : CE h Γ T' Tr nh k i c := by
  rcases k with _ | _ | _ | _ | _ | _ | _ | _ | _ | _ | _ | _ | _ | _ | _ | k
  · exact CE.cg0 ho H
  · exact (show c = _ from H)
  · exact CE.cg2 ho H
  · exact CE.cg3 ho H
  · exact CE.cg4 ho H
  · exact CE.cg5 ho H
  · exact CE.cg6 ho H
  · exact CE.cg7 ho H
  · exact CE.cg8 ho H
  · exact (show c = _ from H)
  · exact CE.cg10 ho H
  · exact (show c = _ from H)
  · exact CE.cg12 ho H
  · exact CE.cg13 ho H
  · exact (show c = _ from H)
  · exact (show c = ia (mlen i) (Tr i) from H)
section WDC
variable {Γ : NM} {ow : Nat → Nat × Nat} {h : Hp} {T T' Tr : TB} {nh : Nat}
theorem vld_congr (h5 : T' 5 0 = T 5 0) (h18 : T' 18 0 = T 18 0) (k i : Nat) : vld T' k i ↔ vld T k i := by
  unfold vld
  rw [h5, h18]
/-- two tables that agree on all that is read -/
theorem WD.congr (H : WD Γ ow h T Tr nh) (ho : ∀ k i j x, vld T k i → dp k i j x → T' j x = T j x) : WD Γ ow h T' Tr nh := by
  have hv := vld_congr (T := T) (T' := T') (ho 0 0 5 0 (Or.inl ⟨by omega, rfl⟩) ⟨rfl, by omega⟩) (ho 0 0 18 0 (Or.inl ⟨by omega, rfl⟩) ⟨rfl, by omega⟩)
  refine ⟨fun k i g => H.1 k i ((hv k i).mp g), fun k i g => ?_⟩
  obtain ⟨c, h1, h2⟩ := H.2 k i ((hv k i).mp g)
  exact ⟨c, h1, h2.congr (fun j x q => ho k i j x ((hv k i).mp g) q)⟩
/-- one place is written, which alone reads what is changed -/
theorem WD.wr {k i : Nat} {c : AC} (H : WD Γ ow h T Tr nh) (hv : vld T k i) (h5 : T' 5 0 = T 5 0) (h18 : T' 18 0 = T 18 0) (hc : CE h Γ T' Tr nh k i c) (ho : ∀ k' i' j x, vld T k' i' → ¬ (k' = k ∧ i' = i) → dp k' i' j x → T' j x = T j x) : WD Γ ow (hup h (Γ k i) c) T' Tr nh :=
  H.put hv (vld_congr h5 h18) hc (fun k' i' d g hne hd => hd.congr (fun j x q => ho k' i' j x g hne q))
theorem v7 {c : Nat} (hc : c < ix (T 5 0)) : vld T 7 c := Or.inr (Or.inl ⟨rfl, hc⟩)
theorem v8 {k s : Nat} (hs : s < ix (T 18 0)) (h1 : 8 ≤ k) (h2 : k ≤ 13) : vld T k s := Or.inr (Or.inr (Or.inl ⟨h1, h2, hs⟩))
theorem v0 {k : Nat} (h1 : k ≤ 6) : vld T k 0 := Or.inl ⟨h1, rfl⟩
theorem WD.sc (H : WD Γ ow h T Tr nh) : h (Γ 0 0) = some (ob 6 (scF Γ T)) := by
  obtain ⟨c, h1, h2⟩ := H.2 0 0 (v0 (by decide))
  rw [h1, show c = _ from h2]
theorem WD.acc (H : WD Γ ow h T Tr nh) : h (Γ 1 0) = some (ob 5 [.ref (Γ 2 0)]) ∧ h (Γ 2 0) = some (ia 6 (T 0)) := by
  obtain ⟨c, h1, h2⟩ := H.2 1 0 (v0 (by decide))
  obtain ⟨d, g1, g2⟩ := H.2 2 0 (v0 (by decide))
  exact ⟨by rw [h1, show c = _ from h2], by rw [g1, show d = _ from g2]⟩
theorem WD.chs (H : WD Γ ow h T Tr nh) : h (Γ 3 0) = some (ra 1 8 (fun q => if q < ix (T 5 0) then some (Γ 7 q) else none)) := by
  obtain ⟨c, h1, h2⟩ := H.2 3 0 (v0 (by decide))
  rw [h1, show c = _ from h2]
theorem WD.sts (H : WD Γ ow h T Tr nh) : h (Γ 4 0) = some (ra 4 64 (fun q => if q < ix (T 18 0) then some (Γ 8 q) else none)) := by
  obtain ⟨c, h1, h2⟩ := H.2 4 0 (v0 (by decide))
  rw [h1, show c = _ from h2]
theorem WD.kno (H : WD Γ ow h T Tr nh) : h (Γ 5 0) = some (ia 16 (T 4)) := by
  obtain ⟨c, h1, h2⟩ := H.2 5 0 (v0 (by decide))
  rw [h1, show c = _ from h2]
theorem WD.rou (H : WD Γ ow h T Tr nh) : ∃ f, h (Γ 6 0) = some (ra 2 4 f) ∧ ∀ q, q < nh → HpOK h Γ T (f q) q := by
  obtain ⟨c, h1, f, h2, h3⟩ := H.2 6 0 (v0 (by decide))
  exact ⟨f, by rw [h1, h2], h3⟩
theorem WD.ch (H : WD Γ ow h T Tr nh) {c : Nat} (hc : c < ix (T 5 0)) : ∃ g, h (Γ 7 c) = some (ob 0 (chF Γ T g c)) ∧ GmOK h g (T 13 c) (T 14 c) (T 15 c) (T 16 c) := by
  obtain ⟨d, h1, g, h2, h3⟩ := H.2 7 c (v7 hc)
  exact ⟨g, by rw [h1, h2], h3⟩
/-- a state's fields, its channel's number known -/
def stG (Γ : NM) (T : TB) (g : Option Nat) (s c : Nat) : List Value := [.int (nI s), .ref (Γ 7 c), .int (T 19 (35 * s + 1)), .ref (Γ 9 s), .ref (Γ 11 s), .ref (Γ 13 s), va_rf g, .int (T 19 (35 * s + 2)), .int (T 19 (35 * s + 3))]
theorem stG_eq {g : Option Nat} {s c : Nat} (hc8 : c < 8) (hc : T 19 (35 * s + 0) = nI c) : stF Γ T g s = stG Γ T g s c := by
  unfold stF stG
  rw [hc, ix_nI (by omega)]
theorem WD.st (H : WD Γ ow h T Tr nh) {s c : Nat} (hs : s < ix (T 18 0)) (hc8 : c < 8) (hc : T 19 (35 * s + 0) = nI c) : ∃ g, h (Γ 8 s) = some (ob 4 (stG Γ T g s c)) ∧ GmOK h g (T 19 (35 * s + 31)) (T 19 (35 * s + 32)) (T 19 (35 * s + 33)) (T 19 (35 * s + 34)) := by
  obtain ⟨d, h1, g, h2, h3⟩ := H.2 8 s (v8 hs (by decide) (by decide))
  exact ⟨g, by rw [h1, h2, stG_eq hc8 hc], h3⟩
theorem WD.sh (H : WD Γ ow h T Tr nh) {s : Nat} (hs : s < ix (T 18 0)) : ∃ f, h (Γ 9 s) = some (ob 5 [.ref (Γ 10 s)]) ∧ h (Γ 10 s) = some (ia 6 f) ∧ ∀ p, p < 6 → f p = T 19 (35 * s + 4 + p) := by
  obtain ⟨c, h1, h2⟩ := H.2 9 s (v8 hs (by decide) (by decide))
  obtain ⟨d, g1, f, g2, g3⟩ := H.2 10 s (v8 hs (by decide) (by decide))
  exact ⟨f, by rw [h1, show c = _ from h2], by rw [g1, g2], g3⟩
theorem WD.ou (H : WD Γ ow h T Tr nh) {s : Nat} (hs : s < ix (T 18 0)) : ∃ f, h (Γ 11 s) = some (ob 5 [.ref (Γ 12 s)]) ∧ h (Γ 12 s) = some (ia 6 f) ∧ ∀ p, p < 6 → f p = T 19 (35 * s + 10 + p) := by
  obtain ⟨c, h1, h2⟩ := H.2 11 s (v8 hs (by decide) (by decide))
  obtain ⟨d, g1, f, g2, g3⟩ := H.2 12 s (v8 hs (by decide) (by decide))
  exact ⟨f, by rw [h1, show c = _ from h2], by rw [g1, g2], g3⟩
theorem WD.lk (H : WD Γ ow h T Tr nh) {s : Nat} (hs : s < ix (T 18 0)) : ∃ f, h (Γ 13 s) = some (ra 3 3 f) ∧ ∀ k, k < 3 → LkOK h (f k) (lkT T s k 0) (lkT T s k 1) (lkT T s k 2) (lkT T s k 3) (lkT T s k 4) := by
  obtain ⟨d, g1, f, g2, g3⟩ := H.2 13 s (v8 hs (by decide) (by decide))
  exact ⟨f, by rw [g1, g2], g3⟩
/-! writing -/
theorem WD.accW (H : WD Γ ow h T Tr nh) (p : Nat) (v : Int32) : WD Γ ow (hup h (Γ 2 0) (ia 6 (upd (T 0) p v))) (up T 0 p v) Tr nh := by
  refine H.wr (T' := up T 0 p v) (v0 (by decide)) rfl rfl (by show _ = ia 6 _; rw [up_row]) (fun k' i' j x hv hne hd => ?_)
  refine up_j _ _ _ _ (fun e => ?_)
  subst e
  unfold dp at hd
  unfold vld at hv
  split at hd <;> omega
theorem WD.knoW (H : WD Γ ow h T Tr nh) (p : Nat) (v : Int32) : WD Γ ow (hup h (Γ 5 0) (ia 16 (upd (T 4) p v))) (up T 4 p v) Tr nh := by
  refine H.wr (T' := up T 4 p v) (v0 (by decide)) rfl rfl (by show _ = ia 16 _; rw [up_row]) (fun k' i' j x hv hne hd => ?_)
  refine up_j _ _ _ _ (fun e => ?_)
  subst e
  unfold dp at hd
  unfold vld at hv
  split at hd <;> omega
theorem WD.shW (H : WD Γ ow h T Tr nh) {s : Nat} (hs : s < ix (T 18 0)) {f : Nat → Int32} (hf : ∀ p, p < 6 → f p = T 19 (35 * s + 4 + p)) {p : Nat} (hp : p < 6) (v : Int32) : WD Γ ow (hup h (Γ 10 s) (ia 6 (upd f p v))) (up T 19 (35 * s + 4 + p) v) Tr nh := by
  refine H.wr (T' := up T 19 (35 * s + 4 + p) v) (v8 hs (by decide) (by decide)) rfl rfl ⟨_, rfl, fun q hq => ?_⟩ (fun k' i' j x hv hne hd => ?_)
  · by_cases e : q = p
    · subst e; rw [pk_us, up_s]
    · rw [pk_un e, up_i _ _ _ (by omega), hf q hq]
  · by_cases e : j = 19 ∧ x = 35 * s + 4 + p
    · exfalso
      unfold dp at hd
      split at hd <;> omega
    · exact if_neg e
theorem WD.ouW (H : WD Γ ow h T Tr nh) {s : Nat} (hs : s < ix (T 18 0)) {f : Nat → Int32} (hf : ∀ p, p < 6 → f p = T 19 (35 * s + 10 + p)) {p : Nat} (hp : p < 6) (v : Int32) : WD Γ ow (hup h (Γ 12 s) (ia 6 (upd f p v))) (up T 19 (35 * s + 10 + p) v) Tr nh := by
  refine H.wr (T' := up T 19 (35 * s + 10 + p) v) (v8 hs (by decide) (by decide)) rfl rfl ⟨_, rfl, fun q hq => ?_⟩ (fun k' i' j x hv hne hd => ?_)
  · by_cases e : q = p
    · subst e; rw [pk_us, up_s]
    · rw [pk_un e, up_i _ _ _ (by omega), hf q hq]
  · by_cases e : j = 19 ∧ x = 35 * s + 10 + p
    · exfalso
      unfold dp at hd
      split at hd <;> omega
    · exact if_neg e
/-- a number of a channel is written: its place among the fields, its row -/
theorem WD.chW (H : WD Γ ow h T Tr nh) {c : Nat} (hc : c < ix (T 5 0)) {g : Option Nat} (hg : GmOK h g (T 13 c) (T 14 c) (T 15 c) (T 16 c)) {j : Nat} {v : Int32} (hj : (6 ≤ j ∧ j ≤ 10) ∨ j = 12 ∨ (24 ≤ j ∧ j ≤ 27)) : WD Γ ow (hup h (Γ 7 c) (ob 0 (chF Γ (up T j c v) g c))) (up T j c v) Tr nh := by
  refine H.wr (T' := up T j c v) (v7 hc) (up_j _ _ _ _ (by omega)) (up_j _ _ _ _ (by omega)) ⟨g, rfl, ?_⟩ (fun k' i' j' x hv hne hd => ?_)
  · rw [up_j _ _ _ _ (by omega), up_j _ _ _ _ (by omega), up_j _ _ _ _ (by omega), up_j _ _ _ _ (by omega)]
    exact hg
  · by_cases e : j' = j ∧ x = c
    · exfalso
      unfold dp at hd
      split at hd <;> omega
    · exact if_neg e
/-- a channel's game -/
def gmU (T : TB) (c : Nat) (st hp tu ot : Int32) : TB := up (up (up (up T 13 c st) 14 c hp) 15 c tu) 16 c ot
theorem WD.chG (H : WD Γ ow h T Tr nh) {c : Nat} (hc : c < ix (T 5 0)) {g g' : Option Nat} {st hp tu ot : Int32} (hg : GmOK h g' st hp tu ot) : WD Γ ow (hup h (Γ 7 c) (ob 0 (chF Γ T g' c))) (gmU T c st hp tu ot) Tr nh := by
  refine H.wr (T' := gmU T c st hp tu ot) (v7 hc) rfl rfl ⟨g', rfl, ?_⟩ (fun k' i' j' x hv hne hd => ?_)
  · rw [show gmU T c st hp tu ot 13 c = st by simp [gmU, up], show gmU T c st hp tu ot 14 c = hp by simp [gmU, up], show gmU T c st hp tu ot 15 c = tu by simp [gmU, up], show gmU T c st hp tu ot 16 c = ot by simp [gmU, up]]
    exact hg
  · unfold gmU
    have key : ¬ (x = c ∧ 13 ≤ j' ∧ j' ≤ 16) := fun e => by
      unfold dp at hd
      split at hd <;> omega
    rw [show up (up (up (up T 13 c st) 14 c hp) 15 c tu) 16 c ot j' x = _ from if_neg (by omega), show up (up (up T 13 c st) 14 c hp) 15 c tu j' x = _ from if_neg (by omega), show up (up T 13 c st) 14 c hp j' x = _ from if_neg (by omega), show up T 13 c st j' x = _ from if_neg (by omega)]
/-- a state's number (2: who signed, 3: who agreed) -/
theorem WD.stW (H : WD Γ ow h T Tr nh) {s c : Nat} (hs : s < ix (T 18 0)) (hc8 : c < 8) (hc : T 19 (35 * s + 0) = nI c) {g : Option Nat} (hg : GmOK h g (T 19 (35 * s + 31)) (T 19 (35 * s + 32)) (T 19 (35 * s + 33)) (T 19 (35 * s + 34))) {j : Nat} {v : Int32} (hj : j = 2 ∨ j = 3) : WD Γ ow (hup h (Γ 8 s) (ob 4 (stG Γ (up T 19 (35 * s + j) v) g s c))) (up T 19 (35 * s + j) v) Tr nh := by
  refine H.wr (T' := up T 19 (35 * s + j) v) (v8 hs (by decide) (by decide)) rfl rfl ⟨g, ?_, ?_⟩ (fun k' i' j' x hv hne hd => ?_)
  · rw [stG_eq hc8 (by rw [up_i _ _ _ (by omega)]; exact hc)]
  · rw [up_i _ _ _ (by omega), up_i _ _ _ (by omega), up_i _ _ _ (by omega), up_i _ _ _ (by omega)]
    exact hg
  · by_cases e : j' = 19 ∧ x = 35 * s + j
    · exfalso
      unfold dp at hd
      split at hd <;> omega
    · exact if_neg e
def gsU (T : TB) (s : Nat) (st hp tu ot : Int32) : TB := up (up (up (up T 19 (35 * s + 31) st) 19 (35 * s + 32) hp) 19 (35 * s + 33) tu) 19 (35 * s + 34) ot
theorem WD.stGm (H : WD Γ ow h T Tr nh) {s c : Nat} (hs : s < ix (T 18 0)) (hc8 : c < 8) (hc : T 19 (35 * s + 0) = nI c) {g' : Option Nat} {st hp tu ot : Int32} (hg : GmOK h g' st hp tu ot) : WD Γ ow (hup h (Γ 8 s) (ob 4 (stG Γ T g' s c))) (gsU T s st hp tu ot) Tr nh := by
  have key : ∀ x, ¬ (35 * s + 31 ≤ x ∧ x < 35 * s + 35) → gsU T s st hp tu ot 19 x = T 19 x := fun x hx => by
    unfold gsU
    rw [up_i _ _ _ (by omega), up_i _ _ _ (by omega), up_i _ _ _ (by omega), up_i _ _ _ (by omega)]
  refine H.wr (T' := gsU T s st hp tu ot) (v8 hs (by decide) (by decide)) rfl rfl ⟨g', ?_, ?_⟩ (fun k' i' j' x hv hne hd => ?_)
  · rw [← stG_eq hc8 hc]
    unfold stF
    rw [key _ (by omega), key _ (by omega), key _ (by omega), key _ (by omega)]
  · rw [show gsU T s st hp tu ot 19 (35 * s + 31) = st by simp [gsU, up], show gsU T s st hp tu ot 19 (35 * s + 32) = hp by simp [gsU, up], show gsU T s st hp tu ot 19 (35 * s + 33) = tu by simp [gsU, up], show gsU T s st hp tu ot 19 (35 * s + 34) = ot by simp [gsU, up]]
    exact hg
  · by_cases e : j' = 19
    · subst e
      refine key _ (fun e => ?_)
      unfold dp at hd
      split at hd <;> omega
    · unfold gsU
      rw [up_j _ _ _ _ e, up_j _ _ _ _ e, up_j _ _ _ _ e, up_j _ _ _ _ e]
/-- a lock's place is written -/
def lsU (T : TB) (s k : Nat) (mu fr to se ex : Int32) : TB := up (up (up (up (up T 19 (35 * s + 16 + 5 * k + 0) mu) 19 (35 * s + 16 + 5 * k + 1) fr) 19 (35 * s + 16 + 5 * k + 2) to) 19 (35 * s + 16 + 5 * k + 3) se) 19 (35 * s + 16 + 5 * k + 4) ex
theorem lsU_o {T : TB} {s k : Nat} {mu fr to se ex : Int32} {x : Nat} (hx : ¬ (35 * s + 16 + 5 * k ≤ x ∧ x < 35 * s + 16 + 5 * k + 5)) : lsU T s k mu fr to se ex 19 x = T 19 x := by
  unfold lsU
  rw [up_i _ _ _ (by omega), up_i _ _ _ (by omega), up_i _ _ _ (by omega), up_i _ _ _ (by omega), up_i _ _ _ (by omega)]
theorem WD.lkW (H : WD Γ ow h T Tr nh) {s : Nat} (hs : s < ix (T 18 0)) {f : Nat → Option Nat} (hf : ∀ k, k < 3 → LkOK h (f k) (lkT T s k 0) (lkT T s k 1) (lkT T s k 2) (lkT T s k 3) (lkT T s k 4)) {k : Nat} (hk : k < 3) {r : Option Nat} {mu fr to se ex : Int32} (hr : LkOK h r mu fr to se ex) : WD Γ ow (hup h (Γ 13 s) (ra 3 3 (fun q => if q = k then r else f q))) (lsU T s k mu fr to se ex) Tr nh := by
  refine H.wr (T' := lsU T s k mu fr to se ex) (v8 hs (by decide) (by decide)) rfl rfl ⟨_, rfl, fun q hq => ?_⟩ (fun k' i' j' x hv hne hd => ?_)
  · by_cases e : q = k
    · subst e
      rw [if_pos rfl]
      rw [show lkT (lsU T s q mu fr to se ex) s q 0 = mu by simp [lkT, lsU, up], show lkT (lsU T s q mu fr to se ex) s q 1 = fr by simp [lkT, lsU, up], show lkT (lsU T s q mu fr to se ex) s q 2 = to by simp [lkT, lsU, up], show lkT (lsU T s q mu fr to se ex) s q 3 = se by simp [lkT, lsU, up], show lkT (lsU T s q mu fr to se ex) s q 4 = ex by simp [lkT, lsU, up]]
      exact hr
    · rw [if_neg e]
      have := hf q hq
      unfold lkT at this ⊢
      rw [lsU_o (by omega), lsU_o (by omega), lsU_o (by omega), lsU_o (by omega), lsU_o (by omega)]
      exact this
  · by_cases e : j' = 19
    · subst e
      refine lsU_o (fun e => ?_)
      unfold dp at hd
      split at hd <;> omega
    · unfold lsU
      rw [up_j _ _ _ _ e, up_j _ _ _ _ e, up_j _ _ _ _ e, up_j _ _ _ _ e, up_j _ _ _ _ e]
/-- a number of the object itself: 1 watched, 2 now, 3 secrets, 20 hops -/
theorem WD.scW (H : WD Γ ow h T Tr nh) {j : Nat} {v : Int32} (hj : j = 1 ∨ j = 2 ∨ j = 3 ∨ j = 20) : WD Γ ow (hup h (Γ 0 0) (ob 6 (scF Γ (up T j 0 v)))) (up T j 0 v) Tr nh := by
  refine H.wr (T' := up T j 0 v) (v0 (by decide)) (up_j _ _ _ _ (by omega)) (up_j _ _ _ _ (by omega)) rfl (fun k' i' j' x hv hne hd => ?_)
  by_cases e : j' = j ∧ x = 0
  · exfalso
    unfold dp at hd
    unfold vld at hv
    split at hd <;> omega
  · exact if_neg e
theorem WD.nhle {nh' : Nat} (H : WD Γ ow h T Tr nh) (hle : nh' ≤ nh) : WD Γ ow h T Tr nh' := by
  refine ⟨H.1, fun k i g => ?_⟩
  obtain ⟨c, h1, h2⟩ := H.2 k i g
  refine ⟨c, h1, ?_⟩
  match k, h2 with
  | 0, hd => exact hd
  | 1, hd => exact hd
  | 2, hd => exact hd
  | 3, hd => exact hd
  | 4, hd => exact hd
  | 5, hd => exact hd
  | 6, hd => obtain ⟨f, h3, h4⟩ := hd; exact ⟨f, h3, fun q hq => h4 q (by omega)⟩
  | 7, hd => exact hd
  | 8, hd => exact hd
  | 9, hd => exact hd
  | 10, hd => exact hd
  | 11, hd => exact hd
  | 12, hd => exact hd
  | 13, hd => exact hd
  | 14, hd => exact hd
  | k + 15, hd => exact hd
end WDC
