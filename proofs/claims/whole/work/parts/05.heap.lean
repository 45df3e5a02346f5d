theorem cat_sum {st : List Value} {N : Nat} (h : st.length ≤ N) : (st.map fun v => v.category).sum ≤ 2 * N := by
  induction st generalizing N with
  | nil => simp
  | cons a r ih =>
    have h2 : a.category ≤ 2 := by rcases lv_cat a with q | q <;> omega
    cases N with
    | zero => simp at h
    | succ N =>
      have := ih (N := N) (by simpa using h)
      simp only [List.map_cons, List.sum_cons]
      omega
theorem good_of {w : Cond} (h : w ∈ tables_1) (g : goodWord w = true) : w ∈ lw_good := List.mem_filter.mpr ⟨List.mem_append_right _ h, g⟩
theorem tbl_of {w : Cond} (h : w ∈ tables_1) : w ∈ lw_tbl := List.mem_append_right _ h
theorem obj_w1 : Cond.instanceMethod objectInit ∈ lw_good := good_of (List.mem_of_getElem? (i := 16) (by decide +kernel)) (by decide +kernel)
theorem obj_w2 : Cond.code objectInit ⟨#[0xb1]⟩ 1 none ∈ lw_good := good_of (List.mem_of_getElem? (i := 17) (by decide +kernel)) (by decide +kernel)
/-- a class of vwCl: its field words, types, names -/
theorem cls_ok (ci : Nat) (C : String) (T : u_T) (N : Nat) (h : vwCl[ci]? = some (C, T, N)) : (∀ w ∈ u_ws C T N, w ∈ lw_good) ∧ (∃ ty : Nat → FieldType, ∀ k, k < N → parseFieldDescriptor (T k).2.2.1 = some (ty k)) ∧ (∀ a, a < N → ∀ b, b < N → a ≠ b → (T a).2.1 ≠ (T b).2.1) := by
  match ci, h with
  | 0, h => cases h; exact ⟨by decide +kernel, ⟨tyX0, tyX0_ok⟩, nmX0⟩
  | 1, h => cases h; exact ⟨by decide +kernel, ⟨tyX1, tyX1_ok⟩, nmX1⟩
  | 2, h => cases h; exact ⟨by decide +kernel, ⟨tyX2, tyX2_ok⟩, nmX2⟩
  | 3, h => cases h; exact ⟨by decide +kernel, ⟨tyX3, tyX3_ok⟩, nmX3⟩
  | 4, h => cases h; exact ⟨by decide +kernel, ⟨tyX4, tyX4_ok⟩, nmX4⟩
  | 5, h => cases h; exact ⟨by decide +kernel, ⟨tyX5, tyX5_ok⟩, nmX5⟩
  | 6, h => cases h; exact ⟨by decide +kernel, ⟨tyX6, tyX6_ok⟩, nmX6⟩
  | 7, h => cases h; exact ⟨by decide +kernel, ⟨tyX7, tyX7_ok⟩, nmX7⟩
  | q + 8, h => simp [vwCl] at h
def FLK (own : String) (idx ci j : Nat) : Prop := ∃ C T N, vwCl[ci]? = some (C, T, N) ∧ j < N ∧ Cond.fieldLink own idx (T j).1 (T j).2.1 (T j).2.2.1 ∈ lw_good
def FPK (own : String) (idx ci j : Nat) (ty : FieldType) : Prop := ∃ C T N, vwCl[ci]? = some (C, T, N) ∧ j < N ∧ Cond.fieldLink own idx (T j).1 (T j).2.1 (T j).2.2.1 ∈ lw_good ∧ (T j).2.2.2 = false ∧ parseFieldDescriptor (T j).2.2.1 = some ty
def FPF (own : String) (idx ci j : Nat) (ty : FieldType) : Prop := ∃ C T N, vwCl[ci]? = some (C, T, N) ∧ j < N ∧ Cond.fieldLink own idx (T j).1 (T j).2.1 (T j).2.2.1 ∈ lw_good ∧ (T j).2.2.2 = true ∧ (T j).1 = own ∧ parseFieldDescriptor (T j).2.2.1 = some ty
def VF (ty : FieldType) (v : Value) : Prop := narrow ty v = v ∧ fits ty v = true
theorem VF.i (x : Int32) : VF .int (.int x) := ⟨rfl, rfl⟩
theorem VF.o (n : String) (r : Option Nat) : VF (.object n) (va_rf r) := by cases r <;> exact ⟨rfl, rfl⟩
theorem VF.a (t : FieldType) (r : Option Nat) : VF (.array t) (va_rf r) := by cases r <;> exact ⟨rfl, rfl⟩
def NWK (own : String) (idx ci : Nat) (fs : List Value) : Prop := ∃ C T N, vwCl[ci]? = some (C, T, N) ∧ fs.length = N ∧ (∃ ty : Nat → FieldType, (∀ k, k < N → parseFieldDescriptor (T k).2.2.1 = some (ty k)) ∧ ∀ j, j < N → defaultValue (ty j) = vp_V fs j) ∧ Cond.classLink own idx C ∈ lw_good ∧ Cond.instantiable C N ∈ lw_good ∧ Cond.initialized C ∈ lw_good
/-- the kinds of arrays of references: which class -/
def akc : Nat → Nat
  | 1 => 0
  | 2 => 2
  | 3 => 3
  | _ => 4
theorem akc_ty {X : XG} {t : Nat} (h1 : 1 ≤ t) (h4 : t ≤ 4) : ∃ r : vw_C, vwCl[akc t]? = some r ∧ (xTys X)[t]? = some (X.2.1 t, .object r.1) := by
  match t, h1, h4 with
  | 1, _, _ => exact ⟨_, rfl, rfl⟩
  | 2, _, _ => exact ⟨_, rfl, rfl⟩
  | 3, _, _ => exact ⟨_, rfl, rfl⟩
  | 4, _, _ => exact ⟨_, rfl, rfl⟩
theorem HR.one {X : XG} {h : Hp} {H : Heap} {a : Nat} {c : AC} (hR : HR X h H) (ha : h a = some c) : va_P X.1 vwCl [(a, acE X c)] H := by
  intro k q hk
  cases k with
  | zero => cases hk; exact (hR.2 a c ha).2
  | succ k => simp at hk
theorem HR.ia {X : XG} {h : Hp} {H : Heap} {a N : Nat} {f : Nat → Int32} (hR : HR X h H) (ha : h a = some (ia N f)) : H[a]? = some (arrV (X.2.1 0) N (fun j => .int (f j))) := (hR.2 a _ ha).2
theorem HR.ra {X : XG} {h : Hp} {H : Heap} {a t N : Nat} {f : Nat → Option Nat} (hR : HR X h H) (ha : h a = some (ra t N f)) : H[a]? = some (arrV (X.2.1 t) N (fun j => va_rf (f j))) := (hR.2 a _ ha).2
section AWH
variable {X : XG} {l : Launch} {cc : ByteArray} {own nm : String} {rt : Option FieldType} {nL fr : Nat} {scr : Scr} {Q : Post} {k n pc pcn : Nat} {L : List (Option Value)} {st : List Value} {h : Hp}
theorem aw_getf {a idx ci j : Nat} {fs : List Value} {v : Value} (hF : FLK own idx ci j) (hd : decode cc pc = .ok (.getfield idx, 3)) (hp : pcn = pc + 3) (ha : h a = some (ob ci fs)) (hv : fs[j]? = some v)
    (kk : AW X l cc own nm rt nL fr scr Q k n pcn L (v :: st) h) : AW X l cc own nm rt nL fr scr Q k n pc L (.ref a :: st) h := by
  subst hp
  intro p e R s m args below meth c mc ms Z H locs cells slots ls M h1 h2 hH hL hS
  obtain ⟨C, T, N, hc, hj, hm⟩ := hF
  exact va_get M.1 M.2.1 M.2.2.2.2.1 (cls_ok ci C T N hc).1 M.2.2.2.1 M.2.2.2.2.2.2.1.1 (hH.one ha) 0 (fs := fs) rfl hc j hj (M.2.2.2.2.1 _ hm) (fun _ q => q) hv hd (kk p e R s m args below meth c mc ms Z H locs cells slots ls M h1 h2 hH hL hS)
theorem aw_putf {a idx ci j : Nat} {fs : List Value} {v : Value} {ty : FieldType} (hF : FPK own idx ci j ty) (hd : decode cc pc = .ok (.putfield idx, 3)) (hp : pcn = pc + 3) (ha : h a = some (ob ci fs)) (hl : j < fs.length) (hv : VF ty v)
    (kk : AW X l cc own nm rt nL fr scr Q k n pcn L st (hup h a (ob ci (fs.set j v)))) : AW X l cc own nm rt nL fr scr Q k n pc L (v :: .ref a :: st) h := by
  subst hp
  intro p e R s m args below meth c mc ms Z H locs cells slots ls M h1 h2 hH hL hS
  obtain ⟨C, T, N, hc, hj, hm, hfin, hdd⟩ := hF
  obtain ⟨hws, ⟨ty0, hty⟩, hnam⟩ := cls_ok ci C T N hc
  have hap := va_apart (own := own) M.2.2.2.2.1 hws ty0 hty hnam M.2.2.2.2.2.2.1.1 hc
  have hab := (hH.2 a _ ha).1
  obtain ⟨r, g1, cell, q1, q2, q3, q4⟩ := (hH.2 a _ ha).2
  have hr : r = (C, T, N) := Option.some.inj (g1.symm.trans hc)
  subst hr
  obtain ⟨hSl, hfc, kC, hkC, hkind⟩ := M.2.2.2.2.2.2.1.1.1 ci _ hc
  obtain ⟨cf, kf, fi, f, hi, hsl⟩ := hSl j hj
  have hst := (u_facts hfc hkC (u_lays M.2.2.2.2.1 hws hj) hi).1
  have hlay := M.2.2.2.2.1 _ ((cls_ok ci C T N hc).1 _ (u_in_lay hj))
  unfold u_lay at hlay
  rw [if_neg (by rw [hfin]; decide)] at hlay
  have h6 := u_store hfc hkC hkind hlay hi hdd hv.1 hv.2
  refine W.putK M.1 M.2.1 (f := f) ⟨M.2.2.2.1, M.2.2.2.2.1 _ hm, ⟨_, _, _, hi⟩, hst⟩ (by rw [q2]; exact h6) q1 q3 (by rw [hsl]; exact k2_hasslot (q4 j hj)) rfl rfl hd fun H' e1 e2 e3 => ?_
  rw [hsl] at e1 ⊢
  exact kk p e R s m args below meth c mc ms Z H' _ cells slots ls M h1 h2 (hH.put hab ⟨_, hc, t_OB.to (V := updV (vp_V fs) j v) ⟨_, e1, q2, q3, t_set q4 hap hj v⟩ (fun i _ => vp_updV_set hl v i)⟩ e2 e3) hL (hS.put e2 e3 hab)
theorem aw_putF {a idx ci j : Nat} {fs : List Value} {v : Value} {ty : FieldType} (hF : FPF own idx ci j ty) (hnm : nm = "<init>") (hd : decode cc pc = .ok (.putfield idx, 3)) (hp : pcn = pc + 3) (ha : h a = some (ob ci fs)) (hl : j < fs.length) (hv : VF ty v)
    (kk : AW X l cc own nm rt nL fr scr Q k n pcn L st (hup h a (ob ci (fs.set j v)))) : AW X l cc own nm rt nL fr scr Q k n pc L (v :: .ref a :: st) h := by
  subst hp
  intro p e R s m args below meth c mc ms Z H locs cells slots ls M h1 h2 hH hL hS
  obtain ⟨C, T, N, hc, hj, hm, hfin, hdecl, hdd⟩ := hF
  obtain ⟨hws, ⟨ty0, hty⟩, hnam⟩ := cls_ok ci C T N hc
  have hap := va_apart (own := own) M.2.2.2.2.1 hws ty0 hty hnam M.2.2.2.2.2.2.1.1 hc
  have hab := (hH.2 a _ ha).1
  obtain ⟨r, g1, cell, q1, q2, q3, q4⟩ := (hH.2 a _ ha).2
  have hr : r = (C, T, N) := Option.some.inj (g1.symm.trans hc)
  subst hr
  obtain ⟨hSl, hfc, kC, hkC, hkind⟩ := M.2.2.2.2.2.2.1.1.1 ci _ hc
  obtain ⟨cf, kf, fi, f, hi, hsl⟩ := hSl j hj
  have hst := (u_facts hfc hkC (u_lays M.2.2.2.2.1 hws hj) hi).1
  have hlay := M.2.2.2.2.1 _ ((cls_ok ci C T N hc).1 _ (u_in_lay hj))
  unfold u_lay at hlay
  rw [if_pos hfin] at hlay
  have hcf : m.cls = cf := by
    obtain ⟨_, _, c', _, _, _, -, -, hf', -, -, -, hown2, -⟩ := Cond.laysFinal_spec hlay
    have e1 : c' = cf := by have := hi.symm.trans hf'; simp at this; exact this.1.symm
    rw [hdecl] at hown2
    rw [← e1]; exact Option.some.inj (M.2.2.2.1.symm.trans hown2)
  have h6 := u_fits hfc hkC hkind (Or.inr hlay) hi hdd hv.1 hv.2
  refine W.putFinK M.1 M.2.1 M.2.2.2.1 (M.2.2.2.2.1 _ hm) hi hst hcf (M.2.2.2.2.2.1.trans hnm) (by rw [q2]; exact h6) q1 q3 (by rw [hsl]; exact k2_hasslot (q4 j hj)) rfl rfl hd fun H' e1 e2 e3 => ?_
  rw [hsl] at e1 ⊢
  exact kk p e R s m args below meth c mc ms Z H' _ cells slots ls M h1 h2 (hH.put hab ⟨_, hc, t_OB.to (V := updV (vp_V fs) j v) ⟨_, e1, q2, q3, t_set q4 hap hj v⟩ (fun i _ => vp_updV_set hl v i)⟩ e2 e3) hL (hS.put e2 e3 hab)
theorem aw_iald {a N : Nat} {f : Nat → Int32} {i : Int32} (hd : decode cc pc = .ok (.iaload, 1)) (hp : pcn = pc + 1) (ha : h a = some (ia N f)) (hi : vp_in i N)
    (kk : AW X l cc own nm rt nL fr scr Q k n pcn L (.int (f i.toNatClampNeg) :: st) h) : AW X l cc own nm rt nL fr scr Q k n pc L (.int i :: .ref a :: st) h := by
  subst hp
  intro p e R s m args below meth c mc ms Z H locs cells slots ls M h1 h2 hH hL hS
  exact va_iald M.1 M.2.1 M.2.2.2.2.2.2.1.1 (hH.one ha) 0 0 (n := N) (f := f) rfl rfl hi hd (kk p e R s m args below meth c mc ms Z H locs cells slots ls M h1 h2 hH hL hS)
theorem aw_iast {a N : Nat} {f : Nat → Int32} {i x : Int32} (hd : decode cc pc = .ok (.iastore, 1)) (hp : pcn = pc + 1) (ha : h a = some (ia N f)) (hi : vp_in i N)
    (kk : AW X l cc own nm rt nL fr scr Q k n pcn L st (hup h a (ia N (upd f i.toNatClampNeg x)))) : AW X l cc own nm rt nL fr scr Q k n pc L (.int x :: .int i :: .ref a :: st) h := by
  subst hp
  intro p e R s m args below meth c mc ms Z H locs cells slots ls M h1 h2 hH hL hS
  have hab := (hH.2 a _ ha).1
  have hK := (M.2.2.2.2.2.2.1.1.2 0 _ rfl).1 N (fun j => .int (f j))
  refine W.iast M.1 M.2.1 (hH.ia ha) hK (fun q => by cases q) (by show ¬ (i < 0 ∨ (arrV _ _ _).slots.size ≤ _); rw [arrV_size]; exact hi) rfl rfl hd fun H1 e0 z oq => ?_
  refine kk p e R s m args below meth c mc ms Z H1 _ cells slots ls M h1 h2 (hH.put hab ?_ z oq) hL (hS.put z oq hab)
  show H1[a]? = some (vp_cell _ _)
  rw [e0, arrV_store]
  show some (arrV (X.2.1 0) N (updV (fun j => Value.int (f j)) i.toNatClampNeg (Value.int x))) = some (arrV (X.2.1 0) N (fun j => .int (upd f i.toNatClampNeg x j)))
  congr 2
  funext q
  by_cases hq : q = i.toNatClampNeg
  · subst hq
    simp [updV, upd]
  · simp [updV, upd, hq]
theorem aw_aald {a t N : Nat} {f : Nat → Option Nat} {i : Int32} (hd : decode cc pc = .ok (.aaload, 1)) (hp : pcn = pc + 1) (ha : h a = some (ra t N f)) (ht : 1 ≤ t ∧ t ≤ 4) (hi : vp_in i N)
    (kk : AW X l cc own nm rt nL fr scr Q k n pcn L (va_rf (f i.toNatClampNeg) :: st) h) : AW X l cc own nm rt nL fr scr Q k n pc L (.int i :: .ref a :: st) h := by
  subst hp
  intro p e R s m args below meth c mc ms Z H locs cells slots ls M h1 h2 hH hL hS
  obtain ⟨r, -, hr2⟩ := akc_ty (X := X) ht.1 ht.2
  exact va_aldq M.1 M.2.1 M.2.2.2.2.2.2.1.1 (hH.one ha) 0 t (n := N) (f := f) rfl hr2 hi hd (kk p e R s m args below meth c mc ms Z H locs cells slots ls M h1 h2 hH hL hS)
theorem aw_aast {a t N v : Nat} {fs : List Value} {f : Nat → Option Nat} {i : Int32} (hd : decode cc pc = .ok (.aastore, 1)) (hp : pcn = pc + 1) (ha : h a = some (ra t N f)) (ht : 1 ≤ t ∧ t ≤ 4) (hi : vp_in i N) (hv : h v = some (ob (akc t) fs))
    (kk : AW X l cc own nm rt nL fr scr Q k n pcn L st (hup h a (ra t N (va_up f i.toNatClampNeg (some v))))) : AW X l cc own nm rt nL fr scr Q k n pc L (.ref v :: .int i :: .ref a :: st) h := by
  subst hp
  intro p e R s m args below meth c mc ms Z H locs cells slots ls M h1 h2 hH hL hS
  have hab := (hH.2 a _ ha).1
  obtain ⟨r, hc, hr2⟩ := akc_ty (X := X) ht.1 ht.2
  have hlt : i.toNatClampNeg < N := Nat.not_le.mp fun q => hi (Or.inr q)
  have h0 : ¬ i < 0 := fun q => hi (Or.inl q)
  obtain ⟨r', hr', cellV, g1, g2, g3, -⟩ := (hH.2 v _ hv).2
  have hcls := (M.2.2.2.2.2.2.1.1.1 (akc t) r hc).2
  obtain ⟨kA, comp, k1, k2, k3, -⟩ := (M.2.2.2.2.2.2.1.1.2 t _ hr2).2
  have hcomp : comp = X.1.1 (akc t) := Option.some.inj (k3.symm.trans hcls.1)
  subst hcomp
  obtain ⟨kC, hkC, -⟩ := id hcls.2
  refine W.aast M.1 M.2.1 (hH.ra ha) (fun q h => by cases h) (fun h => by cases h) k1 k2 rfl hkC ⟨h0, by show _ < (arrV _ _ _).slots.size; rw [arrV_size]; exact hlt⟩ g1 (fun q h => by rw [g3] at h; cases h) (by rw [g2]; exact hkC) (by rw [g2]; exact va_assign hcls) rfl rfl hd fun H1 e0 z oq => ?_
  refine kk p e R s m args below meth c mc ms Z H1 _ cells slots ls M h1 h2 (hH.put hab ?_ z oq) hL (hS.put z oq hab)
  show H1[a]? = some (vp_cell _ _)
  rw [e0, arrV_store]
  show some (arrV (X.2.1 t) N (updV (fun j => va_rf (f j)) i.toNatClampNeg (Value.ref v))) = some (arrV (X.2.1 t) N (fun j => va_rf (va_up f i.toNatClampNeg (some v) j)))
  congr 2
  funext q
  by_cases hq : q = i.toNatClampNeg
  · subst hq
    simp [updV, va_up, va_rf]
  · simp [updV, va_up, hq]
theorem aw_aastN {a t N : Nat} {f : Nat → Option Nat} {i : Int32} (hd : decode cc pc = .ok (.aastore, 1)) (hp : pcn = pc + 1) (ha : h a = some (ra t N f)) (ht : 1 ≤ t ∧ t ≤ 4) (hi : vp_in i N)
    (kk : AW X l cc own nm rt nL fr scr Q k n pcn L st (hup h a (ra t N (va_up f i.toNatClampNeg none)))) : AW X l cc own nm rt nL fr scr Q k n pc L (.null :: .int i :: .ref a :: st) h := by
  subst hp
  intro p e R s m args below meth c mc ms Z H locs cells slots ls M h1 h2 hH hL hS
  have hab := (hH.2 a _ ha).1
  obtain ⟨r, hc, hr2⟩ := akc_ty (X := X) ht.1 ht.2
  refine va_WaastN (C := r.1) M.1 M.2.1 (hH.ra ha) ((M.2.2.2.2.2.2.1.1.2 t _ hr2).1 N (fun j => va_rf (f j))) (fun h => by cases h) (by show ¬ (i < 0 ∨ (arrV _ _ _).slots.size ≤ _); rw [arrV_size]; exact hi) rfl rfl hd fun H1 e0 z oq => ?_
  refine kk p e R s m args below meth c mc ms Z H1 _ cells slots ls M h1 h2 (hH.put hab ?_ z oq) hL (hS.put z oq hab)
  show H1[a]? = some (vp_cell _ _)
  rw [e0, arrV_store]
  show some (arrV (X.2.1 t) N (updV (fun j => va_rf (f j)) i.toNatClampNeg Value.null)) = some (arrV (X.2.1 t) N (fun j => va_rf (va_up f i.toNatClampNeg none j)))
  congr 2
  funext q
  by_cases hq : q = i.toNatClampNeg
  · subst hq
    simp [updV, va_up, va_rf]
  · simp [updV, va_up, hq]
theorem aw_aleni {a N : Nat} {f : Nat → Int32} {v : Int32} (hd : decode cc pc = .ok (.arraylength, 1)) (hp : pcn = pc + 1) (ha : h a = some (ia N f)) (hv : Int32.ofNat N = v)
    (kk : AW X l cc own nm rt nL fr scr Q k n pcn L (.int v :: st) h) : AW X l cc own nm rt nL fr scr Q k n pc L (.ref a :: st) h := by
  subst hp
  intro p e R s m args below meth c mc ms Z H locs cells slots ls M h1 h2 hH hL hS
  exact va_alen M.1 M.2.1 M.2.2.2.2.2.2.1.1 (hH.one ha) 0 0 (x := (N, .inl f)) rfl rfl hv hd (kk p e R s m args below meth c mc ms Z H locs cells slots ls M h1 h2 hH hL hS)
theorem aw_alenr {a t N : Nat} {f : Nat → Option Nat} {v : Int32} (hd : decode cc pc = .ok (.arraylength, 1)) (hp : pcn = pc + 1) (ha : h a = some (ra t N f)) (ht : 1 ≤ t ∧ t ≤ 4) (hv : Int32.ofNat N = v)
    (kk : AW X l cc own nm rt nL fr scr Q k n pcn L (.int v :: st) h) : AW X l cc own nm rt nL fr scr Q k n pc L (.ref a :: st) h := by
  subst hp
  intro p e R s m args below meth c mc ms Z H locs cells slots ls M h1 h2 hH hL hS
  obtain ⟨r, -, hr2⟩ := akc_ty (X := X) ht.1 ht.2
  exact va_alen M.1 M.2.1 M.2.2.2.2.2.2.1.1 (hH.one ha) 0 t (x := (N, .inr (.inr (.inr (.inr f))))) rfl hr2 hv hd (kk p e R s m args below meth c mc ms Z H locs cells slots ls M h1 h2 hH hL hS)
theorem aw_new {idx ci : Nat} {fs : List Value} (N : Nat) (hN : NWK own idx ci fs) (hfl : fs.length = N) (hd : decode cc pc = .ok (.new idx, 3)) (hp : pcn = pc + 3) (hk : 1 ≤ k) (hn : N ≤ n)
    (kk : ∀ a, h a = none → AW X l cc own nm rt nL fr scr Q (k - 1) (n - N) pcn L (.ref a :: st) (hup h a (ob ci fs))) : AW X l cc own nm rt nL fr scr Q k n pc L st h := by
  subst hp
  intro p e R s m args below meth c mc ms Z H locs cells slots ls M h1 h2 hH hL hS
  obtain ⟨C, T, N', hc, hfl', ⟨ty, hty, hfs⟩, w1, w2, w3⟩ := hN
  have hNN : N' = N := hfl'.symm.trans hfl
  subst hNN
  have hKn := M.2.2.2.2.2.2.1.1.1 ci _ hc
  have hw := M.2.2.2.2.1
  have hmc := M.2.2.2.2.2.2.2.2.2.2.1
  have hms := M.2.2.2.2.2.2.2.2.2.2.2.1
  refine W.newcK M.1 M.2.1 M.2.2.2.1 (hw _ w1) (hw _ w2) (hw _ w3) rfl hd (by omega) (by omega) hKn.2.1 rfl fun H1 kC hkC e1 z1 o1 => ?_
  obtain ⟨hnn, hR⟩ := hH.new (c := ob ci fs) ⟨_, hc, (u_born ty hw (cls_ok ci C T N' hc).1 hKn hkC e1 hty).to hfs⟩ z1 o1
  exact kk H.size hnn p e R s m args below meth c mc ms Z H1 locs (cells + 1) (slots + N') ls M (by omega) (by omega) hR hL ⟨Nat.le_trans hS.1 (by omega), fun x g1 g2 => (o1 x (Nat.lt_of_lt_of_le g1 hS.1)).trans (hS.2.1 x g1 g2), hS.2.2⟩
theorem aw_newi {x : Int32} (N : Nat) (hx : x.toNatClampNeg = N) (hx0 : ¬ x < 0) (hb : N * 4 ≤ 536870912) (hw : Cond.arrayClass .int ∈ lw_good) (hd : decode cc pc = .ok (.newarray .int, 2)) (hp : pcn = pc + 2) (hk : 1 ≤ k) (hn : N ≤ n)
    (kk : ∀ a, h a = none → AW X l cc own nm rt nL fr scr Q (k - 1) (n - N) pcn L (.ref a :: st) (hup h a (ia N (fun _ => 0)))) : AW X l cc own nm rt nL fr scr Q k n pc L (.int x :: st) h := by
  subst hp
  intro p e R s m args below meth c mc ms Z H locs cells slots ls M h1 h2 hH hL hS
  have hmc := M.2.2.2.2.2.2.2.2.2.2.1
  have hms := M.2.2.2.2.2.2.2.2.2.2.2.1
  refine va_newaK (atype := .int) M.1 M.2.1 (M.2.2.2.2.1 _ hw) rfl hd rfl hx0 hx hb (by omega) (by omega) rfl fun H1 cA e1 z1 o1 hAr hNm => ?_
  have hcA : cA = X.2.1 0 := Option.some.inj (hNm.symm.trans (M.2.2.2.2.2.2.1.1.2 0 _ rfl).2)
  subst hcA
  obtain ⟨hnn, hR⟩ := hH.new (c := ia N (fun _ => 0)) e1 z1 o1
  exact kk H.size hnn p e R s m args below meth c mc ms Z H1 locs (cells + 1) (slots + N) ls M (by omega) (by omega) hR hL ⟨Nat.le_trans hS.1 (by omega), fun x g1 g2 => (o1 x (Nat.lt_of_lt_of_le g1 hS.1)).trans (hS.2.1 x g1 g2), hS.2.2⟩
theorem GX.ao {X : XG} {s : State} (hG : GX X s) {t : Nat} (ht : 1 ≤ t ∧ t ≤ 4) {r : vw_C} (hc : vwCl[akc t]? = some r) : va_AO r.1 s := by
  match t, ht.1, ht.2 with
  | 1, _, _ => cases hc; exact hG.2.2.1
  | 2, _, _ => cases hc; exact hG.2.2.2.1
  | 3, _, _ => cases hc; exact hG.2.2.2.2.1
  | 4, _, _ => cases hc; exact hG.2.2.2.2.2
def NRK (own : String) (idx t : Nat) : Prop := ∃ r : vw_C, vwCl[akc t]? = some r ∧ Cond.classLink own idx r.1 ∈ lw_good
theorem aw_newr {x : Int32} {idx t : Nat} (N : Nat) (hx : x.toNatClampNeg = N) (hx0 : ¬ x < 0) (hb : N * 4 ≤ 536870912) (ht : 1 ≤ t ∧ t ≤ 4) (hw : NRK own idx t) (hd : decode cc pc = .ok (.anewarray idx, 3)) (hp : pcn = pc + 3) (hk : 1 ≤ k) (hn : N ≤ n)
    (kk : ∀ a, h a = none → AW X l cc own nm rt nL fr scr Q (k - 1) (n - N) pcn L (.ref a :: st) (hup h a (ra t N (fun _ => none)))) : AW X l cc own nm rt nL fr scr Q k n pc L (.int x :: st) h := by
  subst hp
  subst hx
  intro p e R s m args below meth c mc ms Z H locs cells slots ls M h1 h2 hH hL hS
  obtain ⟨r, hc, hcl⟩ := hw
  obtain ⟨r', hc', hr2⟩ := akc_ty (X := X) ht.1 ht.2
  cases hc.symm.trans hc'
  have hmc := M.2.2.2.2.2.2.2.2.2.2.1
  have hms := M.2.2.2.2.2.2.2.2.2.2.2.1
  refine W.anew M.1 M.2.1 M.2.2.2.1 (M.2.2.2.2.1 _ hcl) (va_AO.use (M.2.2.2.2.2.2.1.ao ht hc)) rfl hd rfl hx0 hb (by omega) (by omega) fun cA kA comp f1 f2 f3 f4 => ?_
  obtain ⟨kA', comp', g1, g2, g3, g4⟩ := (M.2.2.2.2.2.2.1.1.2 t _ hr2).2
  have hcA : cA = X.2.1 t := Option.some.inj (f1.symm.trans g4)
  subst hcA
  generalize hH1 : H.push ({ cls := X.2.1 t, slots := Array.replicate x.toNatClampNeg .null, vm := .none } : Cell) = H1
  have z1 : H1.size = H.size + 1 := by rw [← hH1, Array.size_push]
  have e1 : H1[H.size]? = some (arrV (X.2.1 t) x.toNatClampNeg (fun _ => .null)) := by rw [← hH1, Array.getElem?_push_size, ← arrV_new]
  have o1 : ∀ q : Nat, q < H.size → H1[q]? = H[q]? := fun q hq => by rw [← hH1, Array.getElem?_push, if_neg (Nat.ne_of_lt hq)]
  obtain ⟨hnn, hR⟩ := hH.new (c := ra t x.toNatClampNeg (fun _ => none)) e1 z1 o1
  exact kk H.size hnn p e R s m args below meth c mc ms Z H1 locs (cells + 1) (slots + x.toNatClampNeg) ls M (by omega) (by omega) hR hL ⟨Nat.le_trans hS.1 (by omega), fun x g1 g2 => (o1 x (Nat.lt_of_lt_of_le g1 hS.1)).trans (hS.2.1 x g1 g2), hS.2.2⟩
theorem aw_sald {b Ln : Nat} {xs : Nat → Int32} {i : Int32} (hs : scr = some (b, Ln, xs)) (hd : decode cc pc = .ok (.iaload, 1)) (hp : pcn = pc + 1) (hi : vp_in i Ln)
    (kk : AW X l cc own nm rt nL fr scr Q k n pcn L (.int (xs i.toNatClampNeg) :: st) h) : AW X l cc own nm rt nL fr scr Q k n pc L (.int i :: .ref b :: st) h := by
  subst hp
  intro p e R s m args below meth c mc ms Z H locs cells slots ls M h1 h2 hH hL hS
  obtain ⟨g1, g2, g3⟩ := M.2.2.2.2.2.2.2.2.2.2.2.2.1 b Ln xs hs
  exact va_sld M.1 M.2.1 g1 g2 (Nat.not_le.mpr g3) hS hi hd (kk p e R s m args below meth c mc ms Z H locs cells slots ls M h1 h2 hH hL hS)
theorem aw_slen {b Ln : Nat} {xs : Nat → Int32} {v : Int32} (hs : scr = some (b, Ln, xs)) (hd : decode cc pc = .ok (.arraylength, 1)) (hp : pcn = pc + 1) (hv : Int32.ofNat Ln = v)
    (kk : AW X l cc own nm rt nL fr scr Q k n pcn L (.int v :: st) h) : AW X l cc own nm rt nL fr scr Q k n pc L (.ref b :: st) h := by
  subst hp
  subst hv
  intro p e R s m args below meth c mc ms Z H locs cells slots ls M h1 h2 hH hL hS
  obtain ⟨g1, g2, g3⟩ := M.2.2.2.2.2.2.2.2.2.2.2.2.1 b Ln xs hs
  exact va_slen M.1 M.2.1 g1 g2 (Nat.not_le.mpr g3) hS hd (kk p e R s m args below meth c mc ms Z H locs cells slots ls M h1 h2 hH hL hS)
theorem aw_obj {idx a : Nat} (hm : Cond.methodLink own idx objectInit ∈ lw_good) (hf : 1 ≤ fr) (hr : st.length ≤ 4) (hd : decode cc pc = .ok (.invokespecial idx, 3)) (hp : pcn = pc + 3)
    (kk : AW X l cc own nm rt nL fr scr Q k n pcn L st h) : AW X l cc own nm rt nL fr scr Q k n pc L (.ref a :: st) h := by
  subst hp
  intro p e R s m args below meth c mc ms Z H locs cells slots ls M h1 h2 hH hL hS
  have w1 : Cond.instanceMethod objectInit ∈ lw_good := obj_w1
  have w2 : Cond.code objectInit ⟨#[0xb1]⟩ 1 none ∈ lw_good := obj_w2
  have hw := M.2.2.2.2.1
  have f1 := M.2.2.2.2.2.2.2.1
  have f2 := M.2.2.2.2.2.2.2.2.1
  have hsum := cat_sum hr
  refine W.objInit M.1 M.2.1 M.2.2.2.1 (hw _ hm) (hw _ w1) (hw _ w2) rfl (hL.1.trans M.2.2.1.symm) rfl hd (by omega) (by show 2 * 0 + _ + 12 ≤ _; omega) ?_
  exact W.eq (g2 := F0 m (pc + 3) ls st) rfl (kk p e R s m args below meth c mc ms Z H locs cells slots ls M h1 h2 hH hL hS)
/-! calls -/
theorem aw_go {Q1 : Post} {mc1 ms1 : Nat} {rest : List Value} {p : Program} {e : Env} {R : Room} {s : State} {m : MethodId} {args : Array Value} {below : List Frame} {meth : Method} {c : Code} {mc ms : Nat} {Z : State → Prop} {H : Heap} {locs : List Loc} {cells slots : Nat} {ls : Array Slot}
    (hr : va_Run p l e R s m args below meth c H locs cells slots mc1 ms1 (F0 m pc ls st) rest (fun st o t => (∃ v h', o = .returned v ∧ Q1 v h' ∧ HR X h' t.heap) ∧ va_F (fun q => X.2.2 ≤ q) st t) (fun q => X.2.2 ≤ q))
    (M : MX X l cc own nm rt nL fr scr Q p e R s m args below meth c mc ms Z) (h1 : cells + k ≤ mc) (h2 : slots + n ≤ ms) (hH : HR X h H) (hL : LH ls nL L) (hS : va_S (fun q => X.2.2 ≤ q) s.heap H locs) (hk : mc1 ≤ k) (hn : ms1 ≤ n)
    (kk : ∀ v h', Q1 v h' → AW X l cc own nm rt nL fr scr Q (k - mc1) (n - ms1) (pc + 3) L (v.toList ++ rest) h') : W p l e R s m args below meth c H locs cells slots Z (F0 m pc ls st) := by
  intro T hT X2
  obtain ⟨v, st₀, t, T', Lc, h0, X', hLc, e1, e2, ⟨⟨v', h', hv, hq, hR⟩, hz, hkk⟩, hst⟩ := hr T hT X2
  cases hv
  rw [h0] at hz hkk
  obtain ⟨t2, a1, b1⟩ := kk v h' hq p e R s m args below meth c mc ms Z T'.heap (locs ++ Lc) (cells + mc1) (slots + ms1) ls M (by omega) (by omega) (by rw [e1]; exact hR) hL
    ⟨Nat.le_trans hS.1 (by rw [e1]; exact hz), fun q g1 g2 => by rw [e1, hkk q (Nat.lt_of_lt_of_le g1 hS.1) g2]; exact hS.2.1 q g1 g2, fun q hq => by
      rcases List.mem_append.mp hq with g | g
      · exact hS.2.2 q g
      · exact hLc q g⟩ T' rfl X'
  exact ⟨t2, hst t2 a1, b1⟩
/-- a method's words -/
def MFK (y : MethodName) (cy : ByteArray) (nLy : Nat) (rty : Option FieldType) (np : Nat) : Prop := Cond.initialized y.cls ∈ lw_good ∧ Cond.code y cy nLy rty ∈ lw_good ∧ (y.cls ≠ "java/lang/invoke/MethodHandle" ∧ y.cls ≠ "java/lang/invoke/VarHandle") ∧ (parseMethodDescriptor y.desc).map (fun d => d.parameters.length) = some np ∧ nLy ≤ 22
def MVK (y : MethodName) : Prop := Cond.instanceMethod y ∈ lw_good ∧ Cond.selects y.cls y y ∈ lw_good
theorem pre_blind {X : XG} {as : List Value} {h : Hp} : FrameBlind (va_Pc as (fun U => HR X h U.heap ∧ GX X U)) := fun _ _ _ _ q => ⟨q.1, q.2.1, GX.vm rfl q.2.2⟩
theorem MFK.len {y : MethodName} {cy : ByteArray} {nLy np : Nat} {rty : Option FieldType} (F : MFK y cy nLy rty np) : ∀ sig, parseMethodDescriptor y.desc = some sig → np = sig.parameters.length := fun sig hs => by
  have q := F.2.2.2.1
  rw [hs] at q
  exact (Option.some.inj q).symm
theorem words_in {y : MethodName} {cy : ByteArray} {nLy np : Nat} {rty : Option FieldType} (F : MFK y cy nLy rty np) {s : State} {args : Array Value} (hw : ∀ w ∈ lw_good, w.before args s = true) : ∀ w ∈ (Cond.code y cy nLy rty :: lw_good), ∀ (a' : Array Value) (U : State), s.WarmedH U.vm → w.before a' U = true :=
  pay_in hw (goodIn_gg (fun w q => by
    rcases List.mem_cons.mp q with q | q
    · rw [q]; exact F.2.1
    · exact q))

theorem aw_Vi {b : Nat} {idx d mc1 ms1 nLy np : Nat} {y : MethodName} {cy : ByteArray} {rty : Option FieldType} {as rest : List Value} {P : Int32 → Hp → Prop} (hM : AM X l y cy nLy rty d mc1 ms1 (.ref b :: as) h (qi P)) (hF : MFK y cy nLy rty np) (hV : MVK y) {ci : Nat} {fs : List Value} (hb : h b = some (ob ci fs)) (hc : (vwCl[ci]?).map (fun q => q.1) = some y.cls) (hm : Cond.methodLink own idx y ∈ lw_good) (hnp : as.length = np) (hfr : d + 1 ≤ fr) (hk : mc1 ≤ k) (hn : ms1 ≤ n) (hr : rest.length ≤ 4) (hst : st = as.reverse ++ .ref b :: rest) (hd : decode cc pc = .ok (.invokevirtual idx, 3)) (hp : pcn = pc + 3)
    (kk : ∀ r h', P r h' → AW X l cc own nm rt nL fr scr Q (k - mc1) (n - ms1) pcn L (.int r :: rest) h') : AW X l cc own nm rt nL fr scr Q k n pc L st h := by
  subst hp
  intro p e R s m args below meth c mc ms Z H locs cells slots ls M h1 h2 hH hL hS
  have hw := M.2.2.2.2.1
  have hG := M.2.2.2.2.2.2.1
  have f1 := M.2.2.2.2.2.2.2.1
  have f2 := M.2.2.2.2.2.2.2.2.1
  have hmc := M.2.2.2.2.2.2.2.2.2.2.1
  have hms := M.2.2.2.2.2.2.2.2.2.2.2.1
  have h22 := hF.2.2.2.2
  have hsum := cat_sum hr
  have hrecv : ∃ cell : Cell, H[b]? = some cell ∧ cell.vm.isStatics = false ∧ s.vm.findClass y.cls = some cell.cls := by
    cases hq : vwCl[ci]? with
    | none => rw [hq] at hc; cases hc
    | some q =>
      rw [hq] at hc
      have := va_recv hG.1 (hH.one hb) (q0 := 0) hq rfl
      have hc2 : q.1 = y.cls := Option.some.inj hc
      rw [hc2] at this
      exact this
  refine aw_go (va_runV (C := y.cls) (As := as) (rest := rest) ⟨M.1, M.2.1, M.2.2.1, M.2.2.2.1, hw⟩ hM ⟨⟨rfl, rfl, show d + 1 ≤ R.frames by omega, show 8 + (nLy + 11) + 41 * d ≤ R.locals by omega, words_in hF hw, List.mem_cons_self, hw _ hF.2.1, hw _ hF.1, hF.2.2.1, hF.len, hw _ hm⟩, hw _ hV.1, hw _ hV.2⟩ ⟨pre_blind, hrecv, fun U hU hW => ⟨rfl, by rw [hU]; exact hH, hG.warm hW⟩⟩ rfl hnp hL.1 hst (by show 2 * 0 + _ ≤ 8; omega) hd ⟨by omega, by omega⟩) M h1 h2 hH hL hS hk hn ?_
  intro v h' q
  obtain ⟨r, rfl, q2⟩ := q
  exact kk r h' q2
theorem aw_Vv {b : Nat} {idx d mc1 ms1 nLy np : Nat} {y : MethodName} {cy : ByteArray} {rty : Option FieldType} {as rest : List Value} {P : Hp → Prop} (hM : AM X l y cy nLy rty d mc1 ms1 (.ref b :: as) h (qv P)) (hF : MFK y cy nLy rty np) (hV : MVK y) {ci : Nat} {fs : List Value} (hb : h b = some (ob ci fs)) (hc : (vwCl[ci]?).map (fun q => q.1) = some y.cls) (hm : Cond.methodLink own idx y ∈ lw_good) (hnp : as.length = np) (hfr : d + 1 ≤ fr) (hk : mc1 ≤ k) (hn : ms1 ≤ n) (hr : rest.length ≤ 4) (hst : st = as.reverse ++ .ref b :: rest) (hd : decode cc pc = .ok (.invokevirtual idx, 3)) (hp : pcn = pc + 3)
    (kk : ∀ h', P h' → AW X l cc own nm rt nL fr scr Q (k - mc1) (n - ms1) pcn L rest h') : AW X l cc own nm rt nL fr scr Q k n pc L st h := by
  subst hp
  intro p e R s m args below meth c mc ms Z H locs cells slots ls M h1 h2 hH hL hS
  have hw := M.2.2.2.2.1
  have hG := M.2.2.2.2.2.2.1
  have f1 := M.2.2.2.2.2.2.2.1
  have f2 := M.2.2.2.2.2.2.2.2.1
  have hmc := M.2.2.2.2.2.2.2.2.2.2.1
  have hms := M.2.2.2.2.2.2.2.2.2.2.2.1
  have h22 := hF.2.2.2.2
  have hsum := cat_sum hr
  have hrecv : ∃ cell : Cell, H[b]? = some cell ∧ cell.vm.isStatics = false ∧ s.vm.findClass y.cls = some cell.cls := by
    cases hq : vwCl[ci]? with
    | none => rw [hq] at hc; cases hc
    | some q =>
      rw [hq] at hc
      have := va_recv hG.1 (hH.one hb) (q0 := 0) hq rfl
      have hc2 : q.1 = y.cls := Option.some.inj hc
      rw [hc2] at this
      exact this
  refine aw_go (va_runV (C := y.cls) (As := as) (rest := rest) ⟨M.1, M.2.1, M.2.2.1, M.2.2.2.1, hw⟩ hM ⟨⟨rfl, rfl, show d + 1 ≤ R.frames by omega, show 8 + (nLy + 11) + 41 * d ≤ R.locals by omega, words_in hF hw, List.mem_cons_self, hw _ hF.2.1, hw _ hF.1, hF.2.2.1, hF.len, hw _ hm⟩, hw _ hV.1, hw _ hV.2⟩ ⟨pre_blind, hrecv, fun U hU hW => ⟨rfl, by rw [hU]; exact hH, hG.warm hW⟩⟩ rfl hnp hL.1 hst (by show 2 * 0 + _ ≤ 8; omega) hd ⟨by omega, by omega⟩) M h1 h2 hH hL hS hk hn ?_
  intro v h' q
  obtain ⟨rfl, q2⟩ := q
  exact kk h' q2
theorem aw_Vr {b : Nat} {idx d mc1 ms1 nLy np : Nat} {y : MethodName} {cy : ByteArray} {rty : Option FieldType} {as rest : List Value} {P : Option Nat → Hp → Prop} (hM : AM X l y cy nLy rty d mc1 ms1 (.ref b :: as) h (qr P)) (hF : MFK y cy nLy rty np) (hV : MVK y) {ci : Nat} {fs : List Value} (hb : h b = some (ob ci fs)) (hc : (vwCl[ci]?).map (fun q => q.1) = some y.cls) (hm : Cond.methodLink own idx y ∈ lw_good) (hnp : as.length = np) (hfr : d + 1 ≤ fr) (hk : mc1 ≤ k) (hn : ms1 ≤ n) (hr : rest.length ≤ 4) (hst : st = as.reverse ++ .ref b :: rest) (hd : decode cc pc = .ok (.invokevirtual idx, 3)) (hp : pcn = pc + 3)
    (kk : ∀ r h', P r h' → AW X l cc own nm rt nL fr scr Q (k - mc1) (n - ms1) pcn L (va_rf r :: rest) h') : AW X l cc own nm rt nL fr scr Q k n pc L st h := by
  subst hp
  intro p e R s m args below meth c mc ms Z H locs cells slots ls M h1 h2 hH hL hS
  have hw := M.2.2.2.2.1
  have hG := M.2.2.2.2.2.2.1
  have f1 := M.2.2.2.2.2.2.2.1
  have f2 := M.2.2.2.2.2.2.2.2.1
  have hmc := M.2.2.2.2.2.2.2.2.2.2.1
  have hms := M.2.2.2.2.2.2.2.2.2.2.2.1
  have h22 := hF.2.2.2.2
  have hsum := cat_sum hr
  have hrecv : ∃ cell : Cell, H[b]? = some cell ∧ cell.vm.isStatics = false ∧ s.vm.findClass y.cls = some cell.cls := by
    cases hq : vwCl[ci]? with
    | none => rw [hq] at hc; cases hc
    | some q =>
      rw [hq] at hc
      have := va_recv hG.1 (hH.one hb) (q0 := 0) hq rfl
      have hc2 : q.1 = y.cls := Option.some.inj hc
      rw [hc2] at this
      exact this
  refine aw_go (va_runV (C := y.cls) (As := as) (rest := rest) ⟨M.1, M.2.1, M.2.2.1, M.2.2.2.1, hw⟩ hM ⟨⟨rfl, rfl, show d + 1 ≤ R.frames by omega, show 8 + (nLy + 11) + 41 * d ≤ R.locals by omega, words_in hF hw, List.mem_cons_self, hw _ hF.2.1, hw _ hF.1, hF.2.2.1, hF.len, hw _ hm⟩, hw _ hV.1, hw _ hV.2⟩ ⟨pre_blind, hrecv, fun U hU hW => ⟨rfl, by rw [hU]; exact hH, hG.warm hW⟩⟩ rfl hnp hL.1 hst (by show 2 * 0 + _ ≤ 8; omega) hd ⟨by omega, by omega⟩) M h1 h2 hH hL hS hk hn ?_
  intro v h' q
  obtain ⟨r, rfl, q2⟩ := q
  exact kk r h' q2
theorem aw_VNi {b : Nat} {idx d mc1 ms1 nLy np : Nat} {y : MethodName} {cy : ByteArray} {rty : Option FieldType} {as rest : List Value} {P : Int32 → Hp → Prop} (hM : AM X l y cy nLy rty d mc1 ms1 (.ref b :: as) h (qi P)) (hF : MFK y cy nLy rty np) (hV : MVK y) {ci : Nat} {fs : List Value} (hb : h b = some (ob ci fs)) (hc : (vwCl[ci]?).map (fun q => q.1) = some y.cls) {host : String} (hm : Cond.methodLinkNest own idx y host ∈ lw_tbl) (hnp : as.length = np) (hfr : d + 1 ≤ fr) (hk : mc1 ≤ k) (hn : ms1 ≤ n) (hr : rest.length ≤ 4) (hst : st = as.reverse ++ .ref b :: rest) (hd : decode cc pc = .ok (.invokevirtual idx, 3)) (hp : pcn = pc + 3)
    (kk : ∀ r h', P r h' → AW X l cc own nm rt nL fr scr Q (k - mc1) (n - ms1) pcn L (.int r :: rest) h') : AW X l cc own nm rt nL fr scr Q k n pc L st h := by
  subst hp
  intro p e R s m args below meth c mc ms Z H locs cells slots ls M h1 h2 hH hL hS
  have hw := M.2.2.2.2.1
  have hG := M.2.2.2.2.2.2.1
  have f1 := M.2.2.2.2.2.2.2.1
  have f2 := M.2.2.2.2.2.2.2.2.1
  have hmc := M.2.2.2.2.2.2.2.2.2.2.1
  have hms := M.2.2.2.2.2.2.2.2.2.2.2.1
  have h22 := hF.2.2.2.2
  have hsum := cat_sum hr
  have hrecv : ∃ cell : Cell, H[b]? = some cell ∧ cell.vm.isStatics = false ∧ s.vm.findClass y.cls = some cell.cls := by
    cases hq : vwCl[ci]? with
    | none => rw [hq] at hc; cases hc
    | some q =>
      rw [hq] at hc
      have := va_recv hG.1 (hH.one hb) (q0 := 0) hq rfl
      have hc2 : q.1 = y.cls := Option.some.inj hc
      rw [hc2] at this
      exact this
  refine aw_go (va_runVN (C := y.cls) (As := as) (rest := rest) ⟨M.1, M.2.1, M.2.2.1, M.2.2.2.1, hw⟩ hM ⟨⟨⟨rfl, rfl, show d + 1 ≤ R.frames by omega, show 8 + (nLy + 11) + 41 * d ≤ R.locals by omega, words_in hF hw, List.mem_cons_self⟩, hw _ hF.2.1, hw _ hF.1, hF.2.2.1, hF.len, va_Nw.use rfl (hG.2.1 _ _ _ _ hm)⟩, hw _ hV.1, hw _ hV.2⟩ ⟨pre_blind, hrecv, fun U hU hW => ⟨rfl, by rw [hU]; exact hH, hG.warm hW⟩⟩ rfl hnp hL.1 hst (by show 2 * 0 + _ ≤ 8; omega) hd ⟨by omega, by omega⟩) M h1 h2 hH hL hS hk hn ?_
  intro v h' q
  obtain ⟨r, rfl, q2⟩ := q
  exact kk r h' q2
theorem aw_VNv {b : Nat} {idx d mc1 ms1 nLy np : Nat} {y : MethodName} {cy : ByteArray} {rty : Option FieldType} {as rest : List Value} {P : Hp → Prop} (hM : AM X l y cy nLy rty d mc1 ms1 (.ref b :: as) h (qv P)) (hF : MFK y cy nLy rty np) (hV : MVK y) {ci : Nat} {fs : List Value} (hb : h b = some (ob ci fs)) (hc : (vwCl[ci]?).map (fun q => q.1) = some y.cls) {host : String} (hm : Cond.methodLinkNest own idx y host ∈ lw_tbl) (hnp : as.length = np) (hfr : d + 1 ≤ fr) (hk : mc1 ≤ k) (hn : ms1 ≤ n) (hr : rest.length ≤ 4) (hst : st = as.reverse ++ .ref b :: rest) (hd : decode cc pc = .ok (.invokevirtual idx, 3)) (hp : pcn = pc + 3)
    (kk : ∀ h', P h' → AW X l cc own nm rt nL fr scr Q (k - mc1) (n - ms1) pcn L rest h') : AW X l cc own nm rt nL fr scr Q k n pc L st h := by
  subst hp
  intro p e R s m args below meth c mc ms Z H locs cells slots ls M h1 h2 hH hL hS
  have hw := M.2.2.2.2.1
  have hG := M.2.2.2.2.2.2.1
  have f1 := M.2.2.2.2.2.2.2.1
  have f2 := M.2.2.2.2.2.2.2.2.1
  have hmc := M.2.2.2.2.2.2.2.2.2.2.1
  have hms := M.2.2.2.2.2.2.2.2.2.2.2.1
  have h22 := hF.2.2.2.2
  have hsum := cat_sum hr
  have hrecv : ∃ cell : Cell, H[b]? = some cell ∧ cell.vm.isStatics = false ∧ s.vm.findClass y.cls = some cell.cls := by
    cases hq : vwCl[ci]? with
    | none => rw [hq] at hc; cases hc
    | some q =>
      rw [hq] at hc
      have := va_recv hG.1 (hH.one hb) (q0 := 0) hq rfl
      have hc2 : q.1 = y.cls := Option.some.inj hc
      rw [hc2] at this
      exact this
  refine aw_go (va_runVN (C := y.cls) (As := as) (rest := rest) ⟨M.1, M.2.1, M.2.2.1, M.2.2.2.1, hw⟩ hM ⟨⟨⟨rfl, rfl, show d + 1 ≤ R.frames by omega, show 8 + (nLy + 11) + 41 * d ≤ R.locals by omega, words_in hF hw, List.mem_cons_self⟩, hw _ hF.2.1, hw _ hF.1, hF.2.2.1, hF.len, va_Nw.use rfl (hG.2.1 _ _ _ _ hm)⟩, hw _ hV.1, hw _ hV.2⟩ ⟨pre_blind, hrecv, fun U hU hW => ⟨rfl, by rw [hU]; exact hH, hG.warm hW⟩⟩ rfl hnp hL.1 hst (by show 2 * 0 + _ ≤ 8; omega) hd ⟨by omega, by omega⟩) M h1 h2 hH hL hS hk hn ?_
  intro v h' q
  obtain ⟨rfl, q2⟩ := q
  exact kk h' q2
theorem aw_VNr {b : Nat} {idx d mc1 ms1 nLy np : Nat} {y : MethodName} {cy : ByteArray} {rty : Option FieldType} {as rest : List Value} {P : Option Nat → Hp → Prop} (hM : AM X l y cy nLy rty d mc1 ms1 (.ref b :: as) h (qr P)) (hF : MFK y cy nLy rty np) (hV : MVK y) {ci : Nat} {fs : List Value} (hb : h b = some (ob ci fs)) (hc : (vwCl[ci]?).map (fun q => q.1) = some y.cls) {host : String} (hm : Cond.methodLinkNest own idx y host ∈ lw_tbl) (hnp : as.length = np) (hfr : d + 1 ≤ fr) (hk : mc1 ≤ k) (hn : ms1 ≤ n) (hr : rest.length ≤ 4) (hst : st = as.reverse ++ .ref b :: rest) (hd : decode cc pc = .ok (.invokevirtual idx, 3)) (hp : pcn = pc + 3)
    (kk : ∀ r h', P r h' → AW X l cc own nm rt nL fr scr Q (k - mc1) (n - ms1) pcn L (va_rf r :: rest) h') : AW X l cc own nm rt nL fr scr Q k n pc L st h := by
  subst hp
  intro p e R s m args below meth c mc ms Z H locs cells slots ls M h1 h2 hH hL hS
  have hw := M.2.2.2.2.1
  have hG := M.2.2.2.2.2.2.1
  have f1 := M.2.2.2.2.2.2.2.1
  have f2 := M.2.2.2.2.2.2.2.2.1
  have hmc := M.2.2.2.2.2.2.2.2.2.2.1
  have hms := M.2.2.2.2.2.2.2.2.2.2.2.1
  have h22 := hF.2.2.2.2
  have hsum := cat_sum hr
  have hrecv : ∃ cell : Cell, H[b]? = some cell ∧ cell.vm.isStatics = false ∧ s.vm.findClass y.cls = some cell.cls := by
    cases hq : vwCl[ci]? with
    | none => rw [hq] at hc; cases hc
    | some q =>
      rw [hq] at hc
      have := va_recv hG.1 (hH.one hb) (q0 := 0) hq rfl
      have hc2 : q.1 = y.cls := Option.some.inj hc
      rw [hc2] at this
      exact this
  refine aw_go (va_runVN (C := y.cls) (As := as) (rest := rest) ⟨M.1, M.2.1, M.2.2.1, M.2.2.2.1, hw⟩ hM ⟨⟨⟨rfl, rfl, show d + 1 ≤ R.frames by omega, show 8 + (nLy + 11) + 41 * d ≤ R.locals by omega, words_in hF hw, List.mem_cons_self⟩, hw _ hF.2.1, hw _ hF.1, hF.2.2.1, hF.len, va_Nw.use rfl (hG.2.1 _ _ _ _ hm)⟩, hw _ hV.1, hw _ hV.2⟩ ⟨pre_blind, hrecv, fun U hU hW => ⟨rfl, by rw [hU]; exact hH, hG.warm hW⟩⟩ rfl hnp hL.1 hst (by show 2 * 0 + _ ≤ 8; omega) hd ⟨by omega, by omega⟩) M h1 h2 hH hL hS hk hn ?_
  intro v h' q
  obtain ⟨r, rfl, q2⟩ := q
  exact kk r h' q2
theorem aw_Si {idx d mc1 ms1 nLy np : Nat} {y : MethodName} {cy : ByteArray} {rty : Option FieldType} {as rest : List Value} {P : Int32 → Hp → Prop} (hM : AM X l y cy nLy rty d mc1 ms1 as h (qi P)) (hF : MFK y cy nLy rty np) (hV : Cond.static y ∈ lw_good) (hm : Cond.methodLink own idx y ∈ lw_good) (hnp : as.length = np) (hfr : d + 1 ≤ fr) (hk : mc1 ≤ k) (hn : ms1 ≤ n) (hr : rest.length ≤ 4) (hst : st = as.reverse ++ rest) (hd : decode cc pc = .ok (.invokestatic idx, 3)) (hp : pcn = pc + 3)
    (kk : ∀ r h', P r h' → AW X l cc own nm rt nL fr scr Q (k - mc1) (n - ms1) pcn L (.int r :: rest) h') : AW X l cc own nm rt nL fr scr Q k n pc L st h := by
  subst hp
  intro p e R s m args below meth c mc ms Z H locs cells slots ls M h1 h2 hH hL hS
  have hw := M.2.2.2.2.1
  have hG := M.2.2.2.2.2.2.1
  have f1 := M.2.2.2.2.2.2.2.1
  have f2 := M.2.2.2.2.2.2.2.2.1
  have hmc := M.2.2.2.2.2.2.2.2.2.2.1
  have hms := M.2.2.2.2.2.2.2.2.2.2.2.1
  have h22 := hF.2.2.2.2
  have hsum := cat_sum hr
  refine aw_go (va_runS (As := as) (rest := rest) ⟨M.1, M.2.1, M.2.2.1, M.2.2.2.1, hw⟩ hM ⟨⟨rfl, rfl, show d + 1 ≤ R.frames by omega, show 8 + (nLy + 11) + 41 * d ≤ R.locals by omega, words_in hF hw, List.mem_cons_self, hw _ hF.2.1, hw _ hF.1, hF.2.2.1, hF.len, hw _ hm⟩, hw _ hV⟩ ⟨pre_blind, fun U hU hW => ⟨rfl, by rw [hU]; exact hH, hG.warm hW⟩⟩ rfl hnp hL.1 hst (by show 2 * 0 + _ ≤ 8; omega) hd ⟨by omega, by omega⟩) M h1 h2 hH hL hS hk hn ?_
  intro v h' q
  obtain ⟨r, rfl, q2⟩ := q
  exact kk r h' q2
theorem aw_Sv {idx d mc1 ms1 nLy np : Nat} {y : MethodName} {cy : ByteArray} {rty : Option FieldType} {as rest : List Value} {P : Hp → Prop} (hM : AM X l y cy nLy rty d mc1 ms1 as h (qv P)) (hF : MFK y cy nLy rty np) (hV : Cond.static y ∈ lw_good) (hm : Cond.methodLink own idx y ∈ lw_good) (hnp : as.length = np) (hfr : d + 1 ≤ fr) (hk : mc1 ≤ k) (hn : ms1 ≤ n) (hr : rest.length ≤ 4) (hst : st = as.reverse ++ rest) (hd : decode cc pc = .ok (.invokestatic idx, 3)) (hp : pcn = pc + 3)
    (kk : ∀ h', P h' → AW X l cc own nm rt nL fr scr Q (k - mc1) (n - ms1) pcn L rest h') : AW X l cc own nm rt nL fr scr Q k n pc L st h := by
  subst hp
  intro p e R s m args below meth c mc ms Z H locs cells slots ls M h1 h2 hH hL hS
  have hw := M.2.2.2.2.1
  have hG := M.2.2.2.2.2.2.1
  have f1 := M.2.2.2.2.2.2.2.1
  have f2 := M.2.2.2.2.2.2.2.2.1
  have hmc := M.2.2.2.2.2.2.2.2.2.2.1
  have hms := M.2.2.2.2.2.2.2.2.2.2.2.1
  have h22 := hF.2.2.2.2
  have hsum := cat_sum hr
  refine aw_go (va_runS (As := as) (rest := rest) ⟨M.1, M.2.1, M.2.2.1, M.2.2.2.1, hw⟩ hM ⟨⟨rfl, rfl, show d + 1 ≤ R.frames by omega, show 8 + (nLy + 11) + 41 * d ≤ R.locals by omega, words_in hF hw, List.mem_cons_self, hw _ hF.2.1, hw _ hF.1, hF.2.2.1, hF.len, hw _ hm⟩, hw _ hV⟩ ⟨pre_blind, fun U hU hW => ⟨rfl, by rw [hU]; exact hH, hG.warm hW⟩⟩ rfl hnp hL.1 hst (by show 2 * 0 + _ ≤ 8; omega) hd ⟨by omega, by omega⟩) M h1 h2 hH hL hS hk hn ?_
  intro v h' q
  obtain ⟨rfl, q2⟩ := q
  exact kk h' q2
theorem aw_Sr {idx d mc1 ms1 nLy np : Nat} {y : MethodName} {cy : ByteArray} {rty : Option FieldType} {as rest : List Value} {P : Option Nat → Hp → Prop} (hM : AM X l y cy nLy rty d mc1 ms1 as h (qr P)) (hF : MFK y cy nLy rty np) (hV : Cond.static y ∈ lw_good) (hm : Cond.methodLink own idx y ∈ lw_good) (hnp : as.length = np) (hfr : d + 1 ≤ fr) (hk : mc1 ≤ k) (hn : ms1 ≤ n) (hr : rest.length ≤ 4) (hst : st = as.reverse ++ rest) (hd : decode cc pc = .ok (.invokestatic idx, 3)) (hp : pcn = pc + 3)
    (kk : ∀ r h', P r h' → AW X l cc own nm rt nL fr scr Q (k - mc1) (n - ms1) pcn L (va_rf r :: rest) h') : AW X l cc own nm rt nL fr scr Q k n pc L st h := by
  subst hp
  intro p e R s m args below meth c mc ms Z H locs cells slots ls M h1 h2 hH hL hS
  have hw := M.2.2.2.2.1
  have hG := M.2.2.2.2.2.2.1
  have f1 := M.2.2.2.2.2.2.2.1
  have f2 := M.2.2.2.2.2.2.2.2.1
  have hmc := M.2.2.2.2.2.2.2.2.2.2.1
  have hms := M.2.2.2.2.2.2.2.2.2.2.2.1
  have h22 := hF.2.2.2.2
  have hsum := cat_sum hr
  refine aw_go (va_runS (As := as) (rest := rest) ⟨M.1, M.2.1, M.2.2.1, M.2.2.2.1, hw⟩ hM ⟨⟨rfl, rfl, show d + 1 ≤ R.frames by omega, show 8 + (nLy + 11) + 41 * d ≤ R.locals by omega, words_in hF hw, List.mem_cons_self, hw _ hF.2.1, hw _ hF.1, hF.2.2.1, hF.len, hw _ hm⟩, hw _ hV⟩ ⟨pre_blind, fun U hU hW => ⟨rfl, by rw [hU]; exact hH, hG.warm hW⟩⟩ rfl hnp hL.1 hst (by show 2 * 0 + _ ≤ 8; omega) hd ⟨by omega, by omega⟩) M h1 h2 hH hL hS hk hn ?_
  intro v h' q
  obtain ⟨r, rfl, q2⟩ := q
  exact kk r h' q2
theorem aw_SNi {idx d mc1 ms1 nLy np : Nat} {y : MethodName} {cy : ByteArray} {rty : Option FieldType} {as rest : List Value} {P : Int32 → Hp → Prop} (hM : AM X l y cy nLy rty d mc1 ms1 as h (qi P)) (hF : MFK y cy nLy rty np) (hV : Cond.static y ∈ lw_good) {host : String} (hm : Cond.methodLinkNest own idx y host ∈ lw_tbl) (hnp : as.length = np) (hfr : d + 1 ≤ fr) (hk : mc1 ≤ k) (hn : ms1 ≤ n) (hr : rest.length ≤ 4) (hst : st = as.reverse ++ rest) (hd : decode cc pc = .ok (.invokestatic idx, 3)) (hp : pcn = pc + 3)
    (kk : ∀ r h', P r h' → AW X l cc own nm rt nL fr scr Q (k - mc1) (n - ms1) pcn L (.int r :: rest) h') : AW X l cc own nm rt nL fr scr Q k n pc L st h := by
  subst hp
  intro p e R s m args below meth c mc ms Z H locs cells slots ls M h1 h2 hH hL hS
  have hw := M.2.2.2.2.1
  have hG := M.2.2.2.2.2.2.1
  have f1 := M.2.2.2.2.2.2.2.1
  have f2 := M.2.2.2.2.2.2.2.2.1
  have hmc := M.2.2.2.2.2.2.2.2.2.2.1
  have hms := M.2.2.2.2.2.2.2.2.2.2.2.1
  have h22 := hF.2.2.2.2
  have hsum := cat_sum hr
  refine aw_go (va_runSN (As := as) (rest := rest) ⟨M.1, M.2.1, M.2.2.1, M.2.2.2.1, hw⟩ hM ⟨⟨⟨rfl, rfl, show d + 1 ≤ R.frames by omega, show 8 + (nLy + 11) + 41 * d ≤ R.locals by omega, words_in hF hw, List.mem_cons_self⟩, hw _ hF.2.1, hw _ hF.1, hF.2.2.1, hF.len, va_Nw.use rfl (hG.2.1 _ _ _ _ hm)⟩, hw _ hV, trivial⟩ ⟨pre_blind, fun U hU hW => ⟨rfl, by rw [hU]; exact hH, hG.warm hW⟩⟩ rfl hnp hL.1 hst (by show 2 * 0 + _ ≤ 8; omega) hd ⟨by omega, by omega⟩) M h1 h2 hH hL hS hk hn ?_
  intro v h' q
  obtain ⟨r, rfl, q2⟩ := q
  exact kk r h' q2
theorem aw_SNv {idx d mc1 ms1 nLy np : Nat} {y : MethodName} {cy : ByteArray} {rty : Option FieldType} {as rest : List Value} {P : Hp → Prop} (hM : AM X l y cy nLy rty d mc1 ms1 as h (qv P)) (hF : MFK y cy nLy rty np) (hV : Cond.static y ∈ lw_good) {host : String} (hm : Cond.methodLinkNest own idx y host ∈ lw_tbl) (hnp : as.length = np) (hfr : d + 1 ≤ fr) (hk : mc1 ≤ k) (hn : ms1 ≤ n) (hr : rest.length ≤ 4) (hst : st = as.reverse ++ rest) (hd : decode cc pc = .ok (.invokestatic idx, 3)) (hp : pcn = pc + 3)
    (kk : ∀ h', P h' → AW X l cc own nm rt nL fr scr Q (k - mc1) (n - ms1) pcn L rest h') : AW X l cc own nm rt nL fr scr Q k n pc L st h := by
  subst hp
  intro p e R s m args below meth c mc ms Z H locs cells slots ls M h1 h2 hH hL hS
  have hw := M.2.2.2.2.1
  have hG := M.2.2.2.2.2.2.1
  have f1 := M.2.2.2.2.2.2.2.1
  have f2 := M.2.2.2.2.2.2.2.2.1
  have hmc := M.2.2.2.2.2.2.2.2.2.2.1
  have hms := M.2.2.2.2.2.2.2.2.2.2.2.1
  have h22 := hF.2.2.2.2
  have hsum := cat_sum hr
  refine aw_go (va_runSN (As := as) (rest := rest) ⟨M.1, M.2.1, M.2.2.1, M.2.2.2.1, hw⟩ hM ⟨⟨⟨rfl, rfl, show d + 1 ≤ R.frames by omega, show 8 + (nLy + 11) + 41 * d ≤ R.locals by omega, words_in hF hw, List.mem_cons_self⟩, hw _ hF.2.1, hw _ hF.1, hF.2.2.1, hF.len, va_Nw.use rfl (hG.2.1 _ _ _ _ hm)⟩, hw _ hV, trivial⟩ ⟨pre_blind, fun U hU hW => ⟨rfl, by rw [hU]; exact hH, hG.warm hW⟩⟩ rfl hnp hL.1 hst (by show 2 * 0 + _ ≤ 8; omega) hd ⟨by omega, by omega⟩) M h1 h2 hH hL hS hk hn ?_
  intro v h' q
  obtain ⟨rfl, q2⟩ := q
  exact kk h' q2
theorem aw_SNr {idx d mc1 ms1 nLy np : Nat} {y : MethodName} {cy : ByteArray} {rty : Option FieldType} {as rest : List Value} {P : Option Nat → Hp → Prop} (hM : AM X l y cy nLy rty d mc1 ms1 as h (qr P)) (hF : MFK y cy nLy rty np) (hV : Cond.static y ∈ lw_good) {host : String} (hm : Cond.methodLinkNest own idx y host ∈ lw_tbl) (hnp : as.length = np) (hfr : d + 1 ≤ fr) (hk : mc1 ≤ k) (hn : ms1 ≤ n) (hr : rest.length ≤ 4) (hst : st = as.reverse ++ rest) (hd : decode cc pc = .ok (.invokestatic idx, 3)) (hp : pcn = pc + 3)
    (kk : ∀ r h', P r h' → AW X l cc own nm rt nL fr scr Q (k - mc1) (n - ms1) pcn L (va_rf r :: rest) h') : AW X l cc own nm rt nL fr scr Q k n pc L st h := by
  subst hp
  intro p e R s m args below meth c mc ms Z H locs cells slots ls M h1 h2 hH hL hS
  have hw := M.2.2.2.2.1
  have hG := M.2.2.2.2.2.2.1
  have f1 := M.2.2.2.2.2.2.2.1
  have f2 := M.2.2.2.2.2.2.2.2.1
  have hmc := M.2.2.2.2.2.2.2.2.2.2.1
  have hms := M.2.2.2.2.2.2.2.2.2.2.2.1
  have h22 := hF.2.2.2.2
  have hsum := cat_sum hr
  refine aw_go (va_runSN (As := as) (rest := rest) ⟨M.1, M.2.1, M.2.2.1, M.2.2.2.1, hw⟩ hM ⟨⟨⟨rfl, rfl, show d + 1 ≤ R.frames by omega, show 8 + (nLy + 11) + 41 * d ≤ R.locals by omega, words_in hF hw, List.mem_cons_self⟩, hw _ hF.2.1, hw _ hF.1, hF.2.2.1, hF.len, va_Nw.use rfl (hG.2.1 _ _ _ _ hm)⟩, hw _ hV, trivial⟩ ⟨pre_blind, fun U hU hW => ⟨rfl, by rw [hU]; exact hH, hG.warm hW⟩⟩ rfl hnp hL.1 hst (by show 2 * 0 + _ ≤ 8; omega) hd ⟨by omega, by omega⟩) M h1 h2 hH hL hS hk hn ?_
  intro v h' q
  obtain ⟨r, rfl, q2⟩ := q
  exact kk r h' q2
theorem aw_Iv {b : Nat} {idx d mc1 ms1 nLy np : Nat} {y : MethodName} {cy : ByteArray} {rty : Option FieldType} {as rest : List Value} {P : Hp → Prop} (hM : AM X l y cy nLy none d mc1 ms1 (.ref b :: as) h (qv P)) (hF : MFK y cy nLy none np) (hV : Cond.instanceMethod y ∈ lw_good) (hy1 : y.name = "<init>") (hm : Cond.methodLink own idx y ∈ lw_good) (hnp : as.length = np) (hfr : d + 1 ≤ fr) (hk : mc1 ≤ k) (hn : ms1 ≤ n) (hr : rest.length ≤ 4) (hst : st = as.reverse ++ .ref b :: rest) (hd : decode cc pc = .ok (.invokespecial idx, 3)) (hp : pcn = pc + 3)
    (kk : ∀ h', P h' → AW X l cc own nm rt nL fr scr Q (k - mc1) (n - ms1) pcn L rest h') : AW X l cc own nm rt nL fr scr Q k n pc L st h := by
  subst hp
  intro p e R s m args below meth c mc ms Z H locs cells slots ls M h1 h2 hH hL hS
  have hw := M.2.2.2.2.1
  have hG := M.2.2.2.2.2.2.1
  have f1 := M.2.2.2.2.2.2.2.1
  have f2 := M.2.2.2.2.2.2.2.2.1
  have hmc := M.2.2.2.2.2.2.2.2.2.2.1
  have hms := M.2.2.2.2.2.2.2.2.2.2.2.1
  have h22 := hF.2.2.2.2
  have hsum := cat_sum hr
  refine aw_go (va_runI (As := as) (rest := rest) ⟨M.1, M.2.1, M.2.2.1, M.2.2.2.1, hw⟩ hM ⟨⟨rfl, rfl, show d + 1 ≤ R.frames by omega, show 8 + (nLy + 11) + 41 * d ≤ R.locals by omega, words_in hF hw, List.mem_cons_self, hw _ hF.2.1, hw _ hF.1, hF.2.2.1, hF.len, hw _ hm⟩, hy1, hw _ hV⟩ ⟨pre_blind, fun U hU hW => ⟨rfl, by rw [hU]; exact hH, hG.warm hW⟩⟩ rfl hnp hL.1 hst (by show 2 * 0 + _ ≤ 8; omega) hd ⟨by omega, by omega⟩) M h1 h2 hH hL hS hk hn ?_
  intro v h' q
  obtain ⟨rfl, q2⟩ := q
  exact kk h' q2
theorem aw_INv {b : Nat} {idx d mc1 ms1 nLy np : Nat} {y : MethodName} {cy : ByteArray} {rty : Option FieldType} {as rest : List Value} {P : Hp → Prop} (hM : AM X l y cy nLy none d mc1 ms1 (.ref b :: as) h (qv P)) (hF : MFK y cy nLy none np) (hV : Cond.instanceMethod y ∈ lw_good) (hy1 : y.name = "<init>") {host : String} (hm : Cond.methodLinkNest own idx y host ∈ lw_tbl) (hnp : as.length = np) (hfr : d + 1 ≤ fr) (hk : mc1 ≤ k) (hn : ms1 ≤ n) (hr : rest.length ≤ 4) (hst : st = as.reverse ++ .ref b :: rest) (hd : decode cc pc = .ok (.invokespecial idx, 3)) (hp : pcn = pc + 3)
    (kk : ∀ h', P h' → AW X l cc own nm rt nL fr scr Q (k - mc1) (n - ms1) pcn L rest h') : AW X l cc own nm rt nL fr scr Q k n pc L st h := by
  subst hp
  intro p e R s m args below meth c mc ms Z H locs cells slots ls M h1 h2 hH hL hS
  have hw := M.2.2.2.2.1
  have hG := M.2.2.2.2.2.2.1
  have f1 := M.2.2.2.2.2.2.2.1
  have f2 := M.2.2.2.2.2.2.2.2.1
  have hmc := M.2.2.2.2.2.2.2.2.2.2.1
  have hms := M.2.2.2.2.2.2.2.2.2.2.2.1
  have h22 := hF.2.2.2.2
  have hsum := cat_sum hr
  refine aw_go (va_runIN (As := as) (rest := rest) ⟨M.1, M.2.1, M.2.2.1, M.2.2.2.1, hw⟩ hM ⟨⟨⟨rfl, rfl, show d + 1 ≤ R.frames by omega, show 8 + (nLy + 11) + 41 * d ≤ R.locals by omega, words_in hF hw, List.mem_cons_self⟩, hw _ hF.2.1, hw _ hF.1, hF.2.2.1, hF.len, va_Nw.use rfl (hG.2.1 _ _ _ _ hm)⟩, hy1, hw _ hV⟩ ⟨pre_blind, fun U hU hW => ⟨rfl, by rw [hU]; exact hH, hG.warm hW⟩⟩ rfl hnp hL.1 hst (by show 2 * 0 + _ ≤ 8; omega) hd ⟨by omega, by omega⟩) M h1 h2 hH hL hS hk hn ?_
  intro v h' q
  obtain ⟨rfl, q2⟩ := q
  exact kk h' q2
end AWH
