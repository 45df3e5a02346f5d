/-! rules of the class's writing -/
theorem up_comm (T : TB) {j j' : Nat} (i i' : Nat) (v v' : Int32) (h : j ≠ j') : up (up T j i v) j' i' v' = up (up T j' i' v') j i v := by
  funext a b
  unfold up
  by_cases e : a = j ∧ b = i
  · rw [if_pos e, if_neg (fun q => h (e.1.symm.trans q.1))]
    exact (if_pos e).symm
  · rw [if_neg e]
    by_cases e2 : a = j' ∧ b = i'
    · rw [if_pos e2, if_neg e]
    · rw [if_neg e2, if_neg e]
theorem up_commi (T : TB) (j : Nat) {i i' : Nat} (v v' : Int32) (h : i ≠ i') : up (up T j i v) j i' v' = up (up T j i' v') j i v := by
  funext a b
  unfold up
  by_cases e : a = j ∧ b = i
  · rw [if_pos e, if_neg (fun q => h (e.2.symm.trans q.2))]
    exact (if_pos e).symm
  · rw [if_neg e]
    by_cases e2 : a = j ∧ b = i'
    · rw [if_pos e2, if_neg e]
    · rw [if_neg e2, if_neg e]
theorem up_up (T : TB) (j i : Nat) (v v' : Int32) : up (up T j i v) j i v' = up T j i v' := by
  funext a b
  unfold up
  split <;> rfl
theorem up_id {T : TB} {j i : Nat} {v : Int32} (h : T j i = v) : up T j i v = T := by
  rw [← h]
  exact up_same T j i
section AWC
variable {X : XG} {l : Launch} {cc : ByteArray} {own nm : String} {rt : Option FieldType} {nL fr : Nat} {scr : Scr} {Q : Post} {k n pc pcn : Nat} {L : List (Option Value)} {st : List Value} {h : Hp}
variable {Γ : NM} {ow : Nat → Nat × Nat} {T T' Tr : TB} {nh : Nat}
/-- a field of a channel -/
theorem aw_putC {c j idx : Nat} {g g' : Option Nat} {ty : FieldType} {val : Value} (hW : WD Γ ow h T Tr nh) (vc : c < ix (T 5 0)) (hc : h (Γ 7 c) = some (ob 0 (chF Γ T g c))) (hF : FPK own idx 0 j ty) (hj : j < 12) (hv : VF ty val) (hs : (chF Γ T g c).set j val = chF Γ T' g' c) (hN : WD Γ ow (hup h (Γ 7 c) (ob 0 (chF Γ T' g' c))) T' Tr nh)
    (hd : decode cc pc = .ok (.putfield idx, 3)) (hp : pcn = pc + 3) (kk : ∀ h', WD Γ ow h' T' Tr nh → Kp h h' → AW X l cc own nm rt nL fr scr Q k n pcn L st h') : AW X l cc own nm rt nL fr scr Q k n pc L (val :: .ref (Γ 7 c) :: st) h :=
  aw_putf hF hd hp hc hj hv (by rw [hs]; exact kk _ hN (hW.kpp (v7 vc) _))
/-- a field of a state -/
theorem aw_putS {s c j idx : Nat} {g g' : Option Nat} {ty : FieldType} {val : Value} (hW : WD Γ ow h T Tr nh) (vs : s < ix (T 18 0)) (hc : h (Γ 8 s) = some (ob 4 (stG Γ T g s c))) (hF : FPK own idx 4 j ty) (hj : j < 9) (hv : VF ty val) (hs : (stG Γ T g s c).set j val = stG Γ T' g' s c) (hN : WD Γ ow (hup h (Γ 8 s) (ob 4 (stG Γ T' g' s c))) T' Tr nh)
    (hd : decode cc pc = .ok (.putfield idx, 3)) (hp : pcn = pc + 3) (kk : ∀ h', WD Γ ow h' T' Tr nh → Kp h h' → AW X l cc own nm rt nL fr scr Q k n pcn L st h') : AW X l cc own nm rt nL fr scr Q k n pc L (val :: .ref (Γ 8 s) :: st) h :=
  aw_putf hF hd hp hc hj hv (by rw [hs]; exact kk _ hN (hW.kpp (v8 vs (by decide) (by decide)) _))
/-- a field of the object itself -/
theorem aw_putO {j j' idx : Nat} {x : Int32} (hW : WD Γ ow h T Tr nh) (hF : FPK own idx 6 j .int) (hj : j < 11) (hj' : j' = 1 ∨ j' = 2 ∨ j' = 3 ∨ j' = 20) (hs : (scF Γ T).set j (.int x) = scF Γ (up T j' 0 x))
    (hd : decode cc pc = .ok (.putfield idx, 3)) (hp : pcn = pc + 3) (kk : ∀ h', WD Γ ow h' (up T j' 0 x) Tr nh → Kp h h' → AW X l cc own nm rt nL fr scr Q k n pcn L st h') : AW X l cc own nm rt nL fr scr Q k n pc L (.int x :: .ref (Γ 0 0) :: st) h :=
  aw_putf hF hd hp hW.sc hj (VF.i x) (by rw [hs]; exact kk _ (hW.scW hj') (hW.kpp (v0 (by decide)) _))
/-- what is known -/
theorem aw_iastK {m : Nat} {x : Int32} (hW : WD Γ ow h T Tr nh) (hd : decode cc pc = .ok (.iastore, 1)) (hp : pcn = pc + 1) (hn : m < 16) (kk : ∀ h', WD Γ ow h' (up T 4 m x) Tr nh → Kp h h' → AW X l cc own nm rt nL fr scr Q k n pcn L st h') : AW X l cc own nm rt nL fr scr Q k n pc L (.int x :: .int (nI m) :: .ref (Γ 5 0) :: st) h :=
  aw_iastN (by decide) hd hp hW.kno hn (kk _ (hW.knoW m x) (hW.kpp (v0 (by decide)) _))
end AWC
theorem cs_3 (Γ : NM) (T : TB) (g : Option Nat) (c : Nat) (v : Int32) : (chF Γ T g c).set 3 (.int v) = chF Γ (up T 8 c v) g c := by simp [chF, up]
theorem cs_4 (Γ : NM) (T : TB) (g : Option Nat) (c : Nat) (v : Int32) : (chF Γ T g c).set 4 (.int v) = chF Γ (up T 9 c v) g c := by simp [chF, up]
theorem cs_5 (Γ : NM) (T : TB) (g : Option Nat) (c : Nat) (v : Int32) : (chF Γ T g c).set 5 (.int v) = chF Γ (up T 24 c v) g c := by simp [chF, up]
theorem cs_6 (Γ : NM) (T : TB) (g : Option Nat) (c : Nat) (v : Int32) : (chF Γ T g c).set 6 (va_rf (sref Γ v)) = chF Γ (up T 25 c v) g c := by simp [chF, up]
theorem cs_7 (Γ : NM) (T : TB) (g : Option Nat) (c : Nat) (v : Int32) : (chF Γ T g c).set 7 (va_rf (sref Γ v)) = chF Γ (up T 10 c v) g c := by simp [chF, up]
theorem cs_8 (Γ : NM) (T : TB) (g : Option Nat) (c : Nat) (v : Int32) : (chF Γ T g c).set 8 (.int v) = chF Γ (up T 26 c v) g c := by simp [chF, up]
theorem cs_9 (Γ : NM) (T : TB) (g : Option Nat) (c : Nat) (v : Int32) : (chF Γ T g c).set 9 (.int v) = chF Γ (up T 12 c v) g c := by simp [chF, up]
theorem cs_10 (Γ : NM) (T : TB) (g g' : Option Nat) (c : Nat) (a b d e : Int32) : (chF Γ T g c).set 10 (va_rf g') = chF Γ (gmU T c a b d e) g' c := by simp [chF, gmU, up]
theorem cs_11 (Γ : NM) (T : TB) (g : Option Nat) (c : Nat) (v : Int32) : (chF Γ T g c).set 11 (.int v) = chF Γ (up T 27 c v) g c := by simp [chF, up]
theorem ss_6 (Γ : NM) (T : TB) (g g' : Option Nat) (s c : Nat) (a b d e : Int32) : (stG Γ T g s c).set 6 (va_rf g') = stG Γ (gsU T s a b d e) g' s c := by simp [stG, gsU, up]
theorem ss_7 (Γ : NM) (T : TB) (g : Option Nat) (s c : Nat) (v : Int32) : (stG Γ T g s c).set 7 (.int v) = stG Γ (up T 19 (35 * s + 2) v) g s c := by simp [stG, up]
theorem ss_8 (Γ : NM) (T : TB) (g : Option Nat) (s c : Nat) (v : Int32) : (stG Γ T g s c).set 8 (.int v) = stG Γ (up T 19 (35 * s + 3) v) g s c := by simp [stG, up]
theorem os_7 (Γ : NM) (T : TB) (v : Int32) : (scF Γ T).set 7 (.int v) = scF Γ (up T 3 0 v) := by simp [scF, up]
theorem os_8 (Γ : NM) (T : TB) (v : Int32) : (scF Γ T).set 8 (.int v) = scF Γ (up T 20 0 v) := by simp [scF, up]
theorem os_9 (Γ : NM) (T : TB) (v : Int32) : (scF Γ T).set 9 (.int v) = scF Γ (up T 2 0 v) := by simp [scF, up]
theorem os_10 (Γ : NM) (T : TB) (v : Int32) : (scF Γ T).set 10 (.int v) = scF Γ (up T 1 0 v) := by simp [scF, up]
theorem WD.st' {Γ : NM} {ow : Nat → Nat × Nat} {h : Hp} {T Tr : TB} {nh : Nat} (H : WD Γ ow h T Tr nh) {s : Nat} (hs : s < ix (T 18 0)) : ∃ g, h (Γ 8 s) = some (ob 4 (stF Γ T g s)) ∧ GmOK h g (T 19 (35 * s + 31)) (T 19 (35 * s + 32)) (T 19 (35 * s + 33)) (T 19 (35 * s + 34)) := by
  obtain ⟨d, h1, g, h2, h3⟩ := H.2 8 s (v8 hs (by decide) (by decide))
  exact ⟨g, by rw [h1, h2], h3⟩
/-- a deadline of the reference's is nothing here -/
theorem WD.fr17 {Γ : NM} {ow : Nat → Nat × Nat} {h : Hp} {T Tr : TB} {nh c : Nat} {v : Int32} (H : WD Γ ow h T Tr nh) : WD Γ ow h (up T 17 c v) Tr nh := by
  refine H.congr (fun k i j x hv hd => up_j _ _ _ _ (fun e => ?_))
  subst e
  unfold dp at hd
  split at hd <;> omega
theorem WD.fr11 {Γ : NM} {ow : Nat → Nat × Nat} {h : Hp} {T Tr : TB} {nh c : Nat} {v : Int32} (H : WD Γ ow h T Tr nh) : WD Γ ow h (up T 11 c v) Tr nh := by
  refine H.congr (fun k i j x hv hd => up_j _ _ _ _ (fun e => ?_))
  subst e
  unfold dp at hd
  split at hd <;> omega

theorem Kp.rfl {h : Hp} : Kp h h := fun _ _ _ _ q => q
theorem Kp.trans {h h' h2 : Hp} (a : Kp h h') (b : Kp h' h2) : Kp h h2 := fun x ci fs hc q => b x ci fs hc (a x ci fs hc q)
theorem Kp.lk {h h' : Hp} (k : Kp h h') {a : Nat} {fs : List Value} (q : h a = some (ob 3 fs)) : h' a = some (ob 3 fs) := k a 3 fs (by decide) q
theorem Kp.gm {h h' : Hp} (k : Kp h h') {a : Nat} {fs : List Value} (q : h a = some (ob 1 fs)) : h' a = some (ob 1 fs) := k a 1 fs (by decide) q
theorem Kp.hp {h h' : Hp} (k : Kp h h') {a : Nat} {fs : List Value} (q : h a = some (ob 2 fs)) : h' a = some (ob 2 fs) := k a 2 fs (by decide) q
theorem Kp.new {h : Hp} {a : Nat} {c : AC} (ha : h a = none) : Kp h (hup h a c) := fun b ci fs _ hb => by
  by_cases e : b = a
  · subst e; rw [ha] at hb; cases hb
  · rw [hup_n h c e]; exact hb
theorem Kp.put {Γ : NM} {ow : Nat → Nat × Nat} {h h' : Hp} {T Tr : TB} {nh k i : Nat} {c : AC} (hW : WD Γ ow h T Tr nh) (hq : h' = hup h (Γ k i) c) (hv : vld T k i) : Kp h h' := by
  rw [hq]
  exact hW.kpp hv c
