/-! THE WORLD: what lies in the heap, told by two tables of numbers: T (of the class's objects), Tr (of the reference's arrays). -/
abbrev TB : Type := Nat → Nat → Int32
def up (T : TB) (j i : Nat) (v : Int32) : TB := fun j' i' => if j' = j ∧ i' = i then v else T j' i'
theorem up_s (T : TB) (j i : Nat) (v : Int32) : up T j i v j i = v := if_pos ⟨rfl, rfl⟩
theorem up_j (T : TB) {j j' : Nat} (i i' : Nat) (v : Int32) (h : j' ≠ j) : up T j i v j' i' = T j' i' := if_neg (fun q => h q.1)
theorem up_i (T : TB) (j : Nat) {i i' : Nat} (v : Int32) (h : i' ≠ i) : up T j i v j i' = T j i' := if_neg (fun q => h q.2)
theorem up_row (T : TB) (j i : Nat) (v : Int32) : up T j i v j = upd (T j) i v := by
  funext q
  simp [up, upd]
theorem up_rowj (T : TB) {j j' : Nat} (i : Nat) (v : Int32) (h : j' ≠ j) : up T j i v j' = T j' := by
  funext q
  exact up_j T i q v h
abbrev ix (x : Int32) : Nat := x.toNatClampNeg
abbrev NM : Type := Nat → Nat → Nat
def mlen : Nat → Nat
  | 0 => 6
  | 4 => 16
  | 6 => 8
  | 7 => 8
  | 8 => 8
  | 9 => 8
  | 10 => 8
  | 11 => 8
  | 12 => 8
  | 13 => 8
  | 14 => 8
  | 15 => 8
  | 16 => 8
  | 17 => 8
  | 19 => 2240
  | 21 => 4
  | 22 => 4
  | 23 => 4
  | _ => 0
def vld (T : TB) (k i : Nat) : Prop := (k ≤ 6 ∧ i = 0) ∨ (k = 7 ∧ i < ix (T 5 0)) ∨ (8 ≤ k ∧ k ≤ 13 ∧ i < ix (T 18 0)) ∨ (k = 14 ∧ i = 0) ∨ (k = 15 ∧ mlen i ≠ 0)
/-- a state by its number, none below 0 -/
def sref (Γ : NM) (v : Int32) : Option Nat := if v < 0 then none else some (Γ 8 (ix v))
def chF (Γ : NM) (T : TB) (g : Option Nat) (c : Nat) : List Value := [.int (nI c), .int (T 6 c), .int (T 7 c), .int (T 8 c), .int (T 9 c), .int (T 24 c), va_rf (sref Γ (T 25 c)), va_rf (sref Γ (T 10 c)), .int (T 26 c), .int (T 12 c), va_rf g, .int (T 27 c)]
def stF (Γ : NM) (T : TB) (g : Option Nat) (s : Nat) : List Value := [.int (nI s), .ref (Γ 7 (ix (T 19 (35 * s + 0)))), .int (T 19 (35 * s + 1)), .ref (Γ 9 s), .ref (Γ 11 s), .ref (Γ 13 s), va_rf g, .int (T 19 (35 * s + 2)), .int (T 19 (35 * s + 3))]
def scF (Γ : NM) (T : TB) : List Value := [.ref (Γ 1 0), .ref (Γ 3 0), .ref (Γ 4 0), .ref (Γ 5 0), .ref (Γ 6 0), .int (T 5 0), .int (T 18 0), .int (T 3 0), .int (T 20 0), .int (T 2 0), .int (T 1 0)]
def moF (Γ : NM) (T : TB) : List Value := [.ref (Γ 15 0), .int (T 1 0), .int (T 2 0), .int (T 3 0), .ref (Γ 15 4), .int (T 5 0), .ref (Γ 15 6), .ref (Γ 15 7), .ref (Γ 15 8), .ref (Γ 15 9), .ref (Γ 15 10), .ref (Γ 15 11), .ref (Γ 15 12), .ref (Γ 15 13), .ref (Γ 15 14), .ref (Γ 15 15), .ref (Γ 15 16), .ref (Γ 15 17), .int (T 18 0), .ref (Γ 15 19), .int (T 20 0), .ref (Γ 15 21), .ref (Γ 15 22), .ref (Γ 15 23)]
def GmOK (h : Hp) (g : Option Nat) (stake heap turn other : Int32) : Prop := (stake = 0 → g = none) ∧ (stake ≠ 0 → ∃ a, g = some a ∧ h a = some (ob 1 [.int turn, .int other, .int stake, .int heap]))
def LkOK (h : Hp) (g : Option Nat) (much fr to sec ex : Int32) : Prop := (much = 0 → g = none) ∧ (much ≠ 0 → ∃ a, g = some a ∧ h a = some (ob 3 [.int fr, .int to, .int much, .int sec, .int ex]))
def HpOK (h : Hp) (Γ : NM) (T : TB) (r : Option Nat) (q : Nat) : Prop := ∃ a, r = some a ∧ h a = some (ob 2 [.ref (Γ 7 (ix (T 21 q))), .int (T 22 q), .int (T 23 q)])
abbrev lkT (T : TB) (s k j : Nat) : Int32 := T 19 (35 * s + 16 + 5 * k + j)
/-- what lies at the place k, i -/
def CE (h : Hp) (Γ : NM) (T Tr : TB) (nh k i : Nat) (c : AC) : Prop := match k with
  | 0 => c = ob 6 (scF Γ T)
  | 1 => c = ob 5 [.ref (Γ 2 0)]
  | 2 => c = ia 6 (T 0)
  | 3 => c = ra 1 8 (fun q => if q < ix (T 5 0) then some (Γ 7 q) else none)
  | 4 => c = ra 4 64 (fun q => if q < ix (T 18 0) then some (Γ 8 q) else none)
  | 5 => c = ia 16 (T 4)
  | 6 => ∃ f, c = ra 2 4 f ∧ ∀ q, q < nh → HpOK h Γ T (f q) q
  | 7 => ∃ g, c = ob 0 (chF Γ T g i) ∧ GmOK h g (T 13 i) (T 14 i) (T 15 i) (T 16 i)
  | 8 => ∃ g, c = ob 4 (stF Γ T g i) ∧ GmOK h g (T 19 (35 * i + 31)) (T 19 (35 * i + 32)) (T 19 (35 * i + 33)) (T 19 (35 * i + 34))
  | 9 => c = ob 5 [.ref (Γ 10 i)]
  | 10 => ∃ f, c = ia 6 f ∧ ∀ p, p < 6 → f p = T 19 (35 * i + 4 + p)
  | 11 => c = ob 5 [.ref (Γ 12 i)]
  | 12 => ∃ f, c = ia 6 f ∧ ∀ p, p < 6 → f p = T 19 (35 * i + 10 + p)
  | 13 => ∃ f, c = ra 3 3 f ∧ ∀ k, k < 3 → LkOK h (f k) (lkT T i k 0) (lkT T i k 1) (lkT T i k 2) (lkT T i k 3) (lkT T i k 4)
  | 14 => c = ob 7 (moF Γ Tr)
  | _ => c = ia (mlen i) (Tr i)
def WD (Γ : NM) (ow : Nat → Nat × Nat) (h : Hp) (T Tr : TB) (nh : Nat) : Prop := (∀ k i, vld T k i → ow (Γ k i) = (k, i)) ∧ ∀ k i, vld T k i → ∃ c, h (Γ k i) = some c ∧ CE h Γ T Tr nh k i c
/-- what never changes once it is made: games, hops, locks -/
def Kp (h h' : Hp) : Prop := ∀ a ci fs, (ci = 1 ∨ ci = 2 ∨ ci = 3) → h a = some (ob ci fs) → h' a = some (ob ci fs)
theorem GmOK.kp {h h' : Hp} (hk : Kp h h') {g : Option Nat} {a b c d : Int32} (H : GmOK h g a b c d) : GmOK h' g a b c d := ⟨H.1, fun q => by
  obtain ⟨x, h1, h2⟩ := H.2 q
  exact ⟨x, h1, hk _ _ _ (Or.inl rfl) h2⟩⟩
theorem LkOK.kp {h h' : Hp} (hk : Kp h h') {g : Option Nat} {a b c d e : Int32} (H : LkOK h g a b c d e) : LkOK h' g a b c d e := ⟨H.1, fun q => by
  obtain ⟨x, h1, h2⟩ := H.2 q
  exact ⟨x, h1, hk _ _ _ (Or.inr (Or.inr rfl)) h2⟩⟩
theorem HpOK.kp {h h' : Hp} (hk : Kp h h') {Γ : NM} {T : TB} {g : Option Nat} {q : Nat} (H : HpOK h Γ T g q) : HpOK h' Γ T g q := by
  obtain ⟨x, h1, h2⟩ := H
  exact ⟨x, h1, hk _ _ _ (Or.inr (Or.inl rfl)) h2⟩
theorem CE.kp {h h' : Hp} (hk : Kp h h') {Γ : NM} {T Tr : TB} {nh k i : Nat} {c : AC} (H : CE h Γ T Tr nh k i c) : CE h' Γ T Tr nh k i c := by
  match k, H with
  | 0, H => exact H
  | 1, H => exact H
  | 2, H => exact H
  | 3, H => exact H
  | 4, H => exact H
  | 5, H => exact H
  | 6, H => obtain ⟨f, h1, h2⟩ := H; exact ⟨f, h1, fun q hq => (h2 q hq).kp hk⟩
  | 7, H => obtain ⟨f, h1, h2⟩ := H; exact ⟨f, h1, h2.kp hk⟩
  | 8, H => obtain ⟨f, h1, h2⟩ := H; exact ⟨f, h1, h2.kp hk⟩
  | 9, H => exact H
  | 10, H => exact H
  | 11, H => exact H
  | 12, H => exact H
  | 13, H => obtain ⟨f, h1, h2⟩ := H; exact ⟨f, h1, fun q hq => (h2 q hq).kp hk⟩
  | 14, H => exact H
  | k + 15, H => exact H
/-- what lies at a named place is nothing that never changes -/
theorem CE.ni {h : Hp} {Γ : NM} {T Tr : TB} {nh k i : Nat} {c : AC} (H : CE h Γ T Tr nh k i c) (ci : Nat) (fs : List Value) (hc : ci = 1 ∨ ci = 2 ∨ ci = 3) : c ≠ ob ci fs := by
  rintro rfl
  have key : ∀ d gs, (ob ci fs : AC) = ob d gs → ci = d := fun d gs q => by
    have := Sum.inl.inj q
    exact congrArg Prod.fst this
  have ka : ∀ n f, (ob ci fs : AC) ≠ ia n f := fun n f q => by cases q
  have kr : ∀ t n f, (ob ci fs : AC) ≠ ra t n f := fun t n f q => by cases q
  match k, H with
  | 0, H => have := key _ _ H; omega
  | 1, H => have := key _ _ H; omega
  | 2, H => exact ka _ _ H
  | 3, H => exact kr _ _ _ H
  | 4, H => exact kr _ _ _ H
  | 5, H => exact ka _ _ H
  | 6, H => obtain ⟨f, h1, h2⟩ := H; exact kr _ _ _ h1
  | 7, H => obtain ⟨f, h1, h2⟩ := H; have := key _ _ h1; omega
  | 8, H => obtain ⟨f, h1, h2⟩ := H; have := key _ _ h1; omega
  | 9, H => have := key _ _ H; omega
  | 10, H => obtain ⟨f, h1, h2⟩ := H; exact ka _ _ h1
  | 11, H => have := key _ _ H; omega
  | 12, H => obtain ⟨f, h1, h2⟩ := H; exact ka _ _ h1
  | 13, H => obtain ⟨f, h1, h2⟩ := H; exact kr _ _ _ h1
  | 14, H => have := key _ _ H; omega
  | k + 15, H => exact ka _ _ H
theorem WD.kpp {Γ : NM} {ow : Nat → Nat × Nat} {h : Hp} {T Tr : TB} {nh k i : Nat} (H : WD Γ ow h T Tr nh) (hv : vld T k i) (c : AC) : Kp h (hup h (Γ k i) c) := by
  intro a ci fs hci ha
  obtain ⟨d, h1, h2⟩ := H.2 k i hv
  by_cases e : a = Γ k i
  · subst e
    rw [h1] at ha
    exact absurd (Option.some.inj ha) (h2.ni ci fs hci)
  · rw [hup_n h c e]; exact ha
theorem WD.ne {Γ : NM} {ow : Nat → Nat × Nat} {h : Hp} {T Tr : TB} {nh k i k' i' : Nat} (H : WD Γ ow h T Tr nh) (hv : vld T k i) (hv' : vld T k' i') (hne : ¬ (k' = k ∧ i' = i)) : Γ k' i' ≠ Γ k i := fun e => by
  have h1 := H.1 k i hv
  rw [← e, H.1 k' i' hv'] at h1
  exact hne ⟨congrArg Prod.fst h1, congrArg Prod.snd h1⟩
/-- one named place is written -/
theorem WD.put {Γ : NM} {ow : Nat → Nat × Nat} {h : Hp} {T Tr T' Tr' : TB} {nh nh' k i : Nat} {c : AC} (H : WD Γ ow h T Tr nh) (hv : vld T k i) (hvv : ∀ k i, vld T' k i ↔ vld T k i)
    (hc : CE h Γ T' Tr' nh' k i c) (ho : ∀ k' i' d, vld T k' i' → ¬ (k' = k ∧ i' = i) → CE h Γ T Tr nh k' i' d → CE h Γ T' Tr' nh' k' i' d) : WD Γ ow (hup h (Γ k i) c) T' Tr' nh' := by
  have hk := H.kpp hv c
  refine ⟨fun k' i' g => H.1 k' i' ((hvv k' i').mp g), fun k' i' g => ?_⟩
  by_cases e : k' = k ∧ i' = i
  · obtain ⟨rfl, rfl⟩ := e
    exact ⟨c, hup_s _ _ _, hc.kp hk⟩
  · obtain ⟨d, h1, h2⟩ := H.2 k' i' ((hvv k' i').mp g)
    exact ⟨d, by rw [hup_n h c (H.ne hv ((hvv k' i').mp g) e)]; exact h1, (ho k' i' d ((hvv k' i').mp g) e h2).kp hk⟩
/-- a cell that nobody names is made -/
theorem WD.made {Γ : NM} {ow : Nat → Nat × Nat} {h : Hp} {T Tr : TB} {nh a : Nat} {c : AC} (H : WD Γ ow h T Tr nh) (ha : h a = none) : WD Γ ow (hup h a c) T Tr nh := by
  have hk : Kp h (hup h a c) := fun b ci fs _ hb => by
    by_cases e : b = a
    · subst e; rw [ha] at hb; cases hb
    · rw [hup_n h c e]; exact hb
  refine ⟨H.1, fun k i g => ?_⟩
  obtain ⟨d, h1, h2⟩ := H.2 k i g
  refine ⟨d, ?_, h2.kp hk⟩
  rw [hup_n h c (fun e => by rw [← e, h1] at ha; cases ha)]
  exact h1
theorem vld_m {T : TB} {j : Nat} (h : mlen j ≠ 0) : vld T 15 j := Or.inr (Or.inr (Or.inr (Or.inr ⟨rfl, h⟩)))
theorem vld_o {T : TB} : vld T 14 0 := Or.inr (Or.inr (Or.inr (Or.inl ⟨rfl, rfl⟩)))
theorem WD.mo {Γ : NM} {ow : Nat → Nat × Nat} {h : Hp} {T Tr : TB} {nh : Nat} (H : WD Γ ow h T Tr nh) : h (Γ 14 0) = some (ob 7 (moF Γ Tr)) := by
  obtain ⟨c, h1, h2⟩ := H.2 14 0 vld_o
  rw [h1, show c = _ from h2]
theorem WD.ma {Γ : NM} {ow : Nat → Nat × Nat} {h : Hp} {T Tr : TB} {nh j : Nat} (H : WD Γ ow h T Tr nh) (hj : mlen j ≠ 0) : h (Γ 15 j) = some (ia (mlen j) (Tr j)) := by
  obtain ⟨c, h1, h2⟩ := H.2 15 j (vld_m hj)
  rw [h1, show c = _ from h2]
theorem WD.mrow {Γ : NM} {ow : Nat → Nat × Nat} {h : Hp} {T Tr : TB} {nh j n : Nat} {v : Int32} (H : WD Γ ow h T Tr nh) (hj : mlen j ≠ 0) : WD Γ ow (hup h (Γ 15 j) (ia (mlen j) (upd (Tr j) n v))) T (up Tr j n v) nh := by
  refine H.put (vld_m hj) (fun _ _ => Iff.rfl) (by show ia _ _ = ia _ _; rw [up_row]) (fun k' i' d hv hne hd => ?_)
  match k', hv, hne, hd with
  | 0, _, _, hd => exact hd
  | 1, _, _, hd => exact hd
  | 2, _, _, hd => exact hd
  | 3, _, _, hd => exact hd
  | 4, _, _, hd => exact hd
  | 5, _, _, hd => exact hd
  | 6, _, _, hd => exact hd
  | 7, _, _, hd => exact hd
  | 8, _, _, hd => exact hd
  | 9, _, _, hd => exact hd
  | 10, _, _, hd => exact hd
  | 11, _, _, hd => exact hd
  | 12, _, _, hd => exact hd
  | 13, _, _, hd => exact hd
  | 14, _, _, hd =>
    have q : ∀ x, mlen x = 0 → up Tr j n v x = Tr x := fun x hx => up_rowj Tr n v (fun e => hj (by rw [← e]; exact hx))
    show d = ob 7 _
    rw [show d = ob 7 (moF Γ Tr) from hd]
    unfold moF
    rw [q 1 rfl, q 2 rfl, q 3 rfl, q 5 rfl, q 18 rfl, q 20 rfl]
  | k + 15, hv, hne, hd =>
    have hk : k = 0 := by
      rcases hv with h | h | h | h | h <;> omega
    subst hk
    show d = ia _ _
    rw [up_rowj Tr n v (fun e => hne ⟨rfl, e⟩)]
    exact hd
theorem WD.mscal {Γ : NM} {ow : Nat → Nat × Nat} {h : Hp} {T Tr : TB} {nh j : Nat} {v : Int32} (H : WD Γ ow h T Tr nh) (hj : mlen j = 0) : WD Γ ow (hup h (Γ 14 0) (ob 7 (moF Γ (up Tr j 0 v)))) T (up Tr j 0 v) nh := by
  refine H.put vld_o (fun _ _ => Iff.rfl) rfl (fun k' i' d hv hne hd => ?_)
  match k', hv, hne, hd with
  | 0, _, _, hd => exact hd
  | 1, _, _, hd => exact hd
  | 2, _, _, hd => exact hd
  | 3, _, _, hd => exact hd
  | 4, _, _, hd => exact hd
  | 5, _, _, hd => exact hd
  | 6, _, _, hd => exact hd
  | 7, _, _, hd => exact hd
  | 8, _, _, hd => exact hd
  | 9, _, _, hd => exact hd
  | 10, _, _, hd => exact hd
  | 11, _, _, hd => exact hd
  | 12, _, _, hd => exact hd
  | 13, _, _, hd => exact hd
  | 14, hv, hne, hd =>
    have : i' = 0 := by
      rcases hv with h | h | h | h | h <;> omega
    exact absurd ⟨rfl, this⟩ hne
  | k + 15, hv, hne, hd =>
    have hm : mlen i' ≠ 0 := by
      rcases hv with h | h | h | h | h
      · omega
      · omega
      · omega
      · omega
      · exact h.2
    show d = ia _ _
    rw [up_rowj Tr 0 v (fun e => hm (by rw [e]; exact hj))]
    exact hd
