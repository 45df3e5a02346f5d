/-! A judgement over abstract heaps: what a method's code does from a place on, told without the machine. -/
def lw_good : List Cond := lw_tbl.filter goodWord
theorem goodIn_g {ws : List Cond} (h : ∀ w ∈ ws, w ∈ lw_good) {a : Cond} : GoodIn (a :: lw_good) ws := fun w hw => ⟨List.mem_cons_of_mem _ (h w hw), good_of_word (List.mem_filter.mp (h w hw)).2⟩
theorem goodIn_gg {ws : List Cond} (h : ∀ w ∈ ws, w ∈ lw_good) : GoodIn lw_good ws := fun w hw => ⟨h w hw, good_of_word (List.mem_filter.mp (h w hw)).2⟩
/-- cells: an object (its class's place in vwCl, its fields), an array of ints, an array of references (its kind) -/
abbrev AC : Type := (Nat × List Value) ⊕ ((Nat × (Nat → Int32)) ⊕ (Nat × Nat × (Nat → Option Nat)))
abbrev Hp : Type := Nat → Option AC
def ob (ci : Nat) (fs : List Value) : AC := .inl (ci, fs)
def ia (n : Nat) (f : Nat → Int32) : AC := .inr (.inl (n, f))
def ra (t n : Nat) (f : Nat → Option Nat) : AC := .inr (.inr (t, n, f))
abbrev XG : Type := va_G × (Nat → ClassId) × Nat
def acE (X : XG) (c : AC) : va_E := match c with
  | .inl o => .inr o
  | .inr (.inl q) => .inl (X.2.1 0, q.1, .inl q.2)
  | .inr (.inr q) => .inl (X.2.1 q.1, q.2.1, .inr (.inr (.inr (.inr q.2.2))))
def hup (h : Hp) (a : Nat) (c : AC) : Hp := fun q => if q = a then some c else h q
theorem hup_s (h : Hp) (a : Nat) (c : AC) : hup h a c a = some c := if_pos rfl
theorem hup_n (h : Hp) {a b : Nat} (c : AC) (e : b ≠ a) : hup h a c b = h b := if_neg e
def HR (X : XG) (h : Hp) (H : Heap) : Prop := X.2.2 ≤ H.size ∧ ∀ a c, h a = some c → X.2.2 ≤ a ∧ va_at X.1 vwCl (a, acE X c) H
theorem HR.put {X : XG} {h : Hp} {H H1 : Heap} {a : Nat} {c : AC} (hR : HR X h H) (ha : X.2.2 ≤ a) (he : va_at X.1 vwCl (a, acE X c) H1) (z : H1.size = H.size) (oq : ∀ q, q ≠ a → H1[q]? = H[q]?) : HR X (hup h a c) H1 := by
  refine ⟨by rw [z]; exact hR.1, fun b d hb => ?_⟩
  by_cases e : b = a
  · subst e
    rw [hup_s] at hb
    cases hb
    exact ⟨ha, he⟩
  · rw [hup_n h c e] at hb
    exact ⟨(hR.2 b d hb).1, (hR.2 b d hb).2.kept (oq b e)⟩
theorem HR.new {X : XG} {h : Hp} {H H1 : Heap} {c : AC} (hR : HR X h H) (he : va_at X.1 vwCl (H.size, acE X c) H1) (z : H1.size = H.size + 1) (oq : ∀ q, q < H.size → H1[q]? = H[q]?) : h H.size = none ∧ HR X (hup h H.size c) H1 := by
  have hn : h H.size = none := by
    cases e : h H.size with
    | none => rfl
    | some d => exact absurd (hR.2 _ d e).2.lt (Nat.lt_irrefl _)
  refine ⟨hn, by rw [z]; exact Nat.le_succ_of_le hR.1, fun b d hb => ?_⟩
  by_cases e : b = H.size
  · subst e
    rw [hup_s] at hb
    cases hb
    exact ⟨hR.1, he⟩
  · rw [hup_n h c e] at hb
    exact ⟨(hR.2 b d hb).1, (hR.2 b d hb).2.kept (oq b (hR.2 b d hb).2.lt)⟩
abbrev xTys (X : XG) : List (ClassId × FieldType) := [(X.2.1 0, .int), (X.2.1 1, .object RX0), (X.2.1 2, .object RX2), (X.2.1 3, .object RX3), (X.2.1 4, .object RX4)]
/-- what stays of the tables from call to call -/
def GX (X : XG) (U : State) : Prop := va_K X.1 vwCl (xTys X) U ∧ (∀ (a : String) (i : Nat) (x : MethodName) (o : String), Cond.methodLinkNest a i x o ∈ lw_tbl → va_Nw (.methodLinkNest a i x o) U) ∧ va_AO RX0 U ∧ va_AO RX2 U ∧ va_AO RX3 U ∧ va_AO RX4 U
theorem GX.warm {X : XG} {s U : State} (hW : s.WarmedH U.vm) (h : GX X s) : GX X U :=
  ⟨va_K.moved hW.alike h.1, fun a i x o hm => (h.2.1 a i x o hm).warmM hW, h.2.2.1.moved hW.alike, h.2.2.2.1.moved hW.alike, h.2.2.2.2.1.moved hW.alike, h.2.2.2.2.2.moved hW.alike⟩
theorem GX.vm {X : XG} {s U : State} (hW : s.vm = U.vm) (h : GX X s) : GX X U :=
  ⟨va_K.moved (by rw [hW]; exact Vm.Alike.refl _) h.1, fun a i x o hm => (h.2.1 a i x o hm).same rfl hW, h.2.2.1.moved (by rw [hW]; exact Vm.Alike.refl _), h.2.2.2.1.moved (by rw [hW]; exact Vm.Alike.refl _), h.2.2.2.2.1.moved (by rw [hW]; exact Vm.Alike.refl _), h.2.2.2.2.2.moved (by rw [hW]; exact Vm.Alike.refl _)⟩
/-- locals: a list, none where nothing is known -/
def LH (ls : Array Slot) (nL : Nat) (L : List (Option Value)) : Prop := ls.size = nL ∧ lv_wf ls ∧ ∀ (i : Nat) (v : Value), L[i]? = some (some v) → v.category = 1 ∧ ls[i]? = some (.val v)
def lpairs (L : List (Option Value)) : List (Nat × Value) := L.zipIdx.filterMap (fun q => q.1.map (fun v => (q.2, v)))
theorem lpairs_mem {L : List (Option Value)} {i : Nat} {v : Value} : (i, v) ∈ lpairs L ↔ L[i]? = some (some v) := by
  unfold lpairs
  rw [List.mem_filterMap]
  constructor
  · rintro ⟨⟨o, j⟩, h1, h2⟩
    cases o with
    | none => cases h2
    | some w =>
      simp only [Option.map_some, Option.some.injEq, Prod.mk.injEq] at h2
      obtain ⟨rfl, rfl⟩ := h2
      exact List.mem_zipIdx_iff_getElem?.mp h1
  · intro h
    exact ⟨(some v, i), List.mem_zipIdx_iff_getElem?.mpr h, rfl⟩
theorem LH.has {ls : Array Slot} {nL : Nat} {L : List (Option Value)} (h : LH ls nL L) : lv_has ls nL (lpairs L) :=
  ⟨h.1, h.2.1, fun q hq => (h.2.2 q.1 q.2 (lpairs_mem.mp hq)).2⟩
theorem LH.at {ls : Array Slot} {nL : Nat} {L : List (Option Value)} (h : LH ls nL L) {i : Nat} {v : Value} (hi : L[i]? = some (some v)) : ls[i]? = some (.val v) := (h.2.2 i v hi).2
theorem LH.st {ls ls' : Array Slot} {nL i : Nat} {v : Value} {L : List (Option Value)} (h : LH ls nL L) (hv : v.category = 1) (h' : lv_has ls' nL ((i, v) :: (lpairs L).filter (fun q => !(q.1 == i) && !(q.1 + 1 == i && q.2.category == 2)))) : LH ls' nL (L.set i (some v)) := by
  refine ⟨h'.1, h'.2.1, fun j w hj => ?_⟩
  by_cases e : j = i
  · subst e
    by_cases hl : j < L.length
    · rw [List.getElem?_set_self hl] at hj
      cases hj
      exact ⟨hv, h'.2.2 _ List.mem_cons_self⟩
    · rw [List.getElem?_eq_none (by simp; omega)] at hj
      cases hj
  · rw [List.getElem?_set_ne (Ne.symm e)] at hj
    have hc := (h.2.2 j w hj).1
    refine ⟨hc, h'.2.2 (j, w) (List.mem_cons_of_mem _ (List.mem_filter.mpr ⟨lpairs_mem.mpr hj, ?_⟩))⟩
    simp [e, hc]
theorem LH.sub {ls : Array Slot} {nL : Nat} {L L' : List (Option Value)} (h : LH ls nL L) (hs : ∀ (i : Nat) (v : Value), L'[i]? = some (some v) → L[i]? = some (some v)) : LH ls nL L' := ⟨h.1, h.2.1, fun i v hi => h.2.2 i v (hs i v hi)⟩
/-- a script of ints that the law reads -/
def SX (X : XG) (scr : Option (Nat × Nat × (Nat → Int32))) (s : State) : Prop := ∀ b L xs, scr = some (b, L, xs) → va_X b L xs s s.heap ∧ b < s.heap.size ∧ b < X.2.2
/-- how a method may return a value -/
def RI (cc : ByteArray) (rt : Option FieldType) (pc : Nat) (v : Option Value) : Prop :=
  (v = none ∧ rt = none ∧ decode cc pc = .ok (.return_, 1)) ∨ (∃ x ty, v = some (.int x) ∧ rt = some ty ∧ narrow ty (.int x) = .int x ∧ decode cc pc = .ok (.ireturn, 1)) ∨
  (∃ r ty, v = some (va_rf r) ∧ rt = some ty ∧ ((∃ n, ty = .object n) ∨ ∃ t, ty = .array t) ∧ decode cc pc = .ok (.areturn, 1))
abbrev Post : Type := Option Value → Hp → Prop
abbrev Scr : Type := Option (Nat × Nat × (Nat → Int32))
/-- the machine around a method's walk -/
def MX (X : XG) (l : Launch) (cc : ByteArray) (own nm : String) (rt : Option FieldType) (nL fr : Nat) (scr : Scr) (Q : Post) (p : Program) (e : Env) (R : Room) (s : State) (m : MethodId) (args : Array Value) (below : List Frame) (meth : Method) (c : Code) (mc ms : Nat) (Z : State → Prop) : Prop :=
  p.tables.exec = Jvm.exec ∧ c.code = cc ∧ c.maxLocals = nL ∧ s.vm.findClass own = some m.cls ∧ (∀ w ∈ lw_good, w.before args s = true) ∧ meth.name = nm ∧ GX X s ∧ fr ≤ R.frames ∧ 41 * fr ≤ R.locals ∧ X.2.2 ≤ s.heap.size ∧ mc ≤ R.cells ∧ ms ≤ R.slots ∧ SX X scr s ∧
  ∀ (H : Heap) (locs : List Loc) (cells slots pc : Nat) (ls : Array Slot) (v : Option Value) (h : Hp), Q v h → RI cc rt pc v → HR X h H → va_S (fun q => X.2.2 ≤ q) s.heap H locs → cells ≤ mc → slots ≤ ms → W p l e R s m args below meth c H locs cells slots Z (F0 m pc ls v.toList)
/-- from pc, with these locals, this stack and this heap, the method comes to its end with Q; it makes at most k cells of n slots more -/
def AW (X : XG) (l : Launch) (cc : ByteArray) (own nm : String) (rt : Option FieldType) (nL fr : Nat) (scr : Scr) (Q : Post) (k n pc : Nat) (L : List (Option Value)) (st : List Value) (h : Hp) : Prop :=
  ∀ (p : Program) (e : Env) (R : Room) (s : State) (m : MethodId) (args : Array Value) (below : List Frame) (meth : Method) (c : Code) (mc ms : Nat) (Z : State → Prop) (H : Heap) (locs : List Loc) (cells slots : Nat) (ls : Array Slot),
    MX X l cc own nm rt nL fr scr Q p e R s m args below meth c mc ms Z → cells + k ≤ mc → slots + n ≤ ms → HR X h H → LH ls nL L → va_S (fun q => X.2.2 ≤ q) s.heap H locs →
    W p l e R s m args below meth c H locs cells slots Z (F0 m pc ls st)
/-- a method's contract at these arguments and this heap -/
def AM (X : XG) (l : Launch) (y : MethodName) (cc : ByteArray) (nL : Nat) (rt : Option FieldType) (d mc ms : Nat) (as : List Value) (h : Hp) (Q : Post) : Prop :=
  Met l y (.code y cc nL rt :: lw_good) { frames := d, cells := mc, slots := ms, locals := 41 * d } (va_Pc as (fun U => HR X h U.heap ∧ GX X U)) (fun _ st o t => (∃ v h', o = .returned v ∧ Q v h' ∧ HR X h' t.heap) ∧ va_F (fun q => X.2.2 ≤ q) st t) mc ms (fun q => X.2.2 ≤ q)
def lent (nL : Nat) (as : List Value) : List (Option Value) := as.map some ++ List.replicate (nL - as.length) none
theorem lg_sl_one {as : List Value} (h : ∀ v ∈ as, v.category = 1) : lg_sl as = as.map Slot.val := by
  unfold lg_sl
  induction as with
  | nil => rfl
  | cons a l ih =>
    rw [List.flatMap_cons, ih (fun v hv => h v (List.mem_cons_of_mem _ hv)), if_neg (by rw [h a List.mem_cons_self]; decide)]
    rfl
theorem AM.of {X : XG} {l : Launch} {y : MethodName} {cc : ByteArray} {nL : Nat} {rt : Option FieldType} {d mc ms : Nat} {as : List Value} {h : Hp} {Q : Post} (hy : plainName y.cls = true) (hc : ∀ v ∈ as, v.category = 1) (hl : as.length ≤ nL)
    (k : AW X l cc y.cls y.name rt nL d none Q mc ms 0 (lent nL as) [] h) : AM X l y cc nL rt d mc ms as h Q := by
  refine Met.ofW (cc := cc) (maxL := nL) (ret := rt) hy rfl ?_
  intro p e s m args below meth c s₁ B hml hv
  obtain ⟨rfl, hH, hG⟩ := hv
  have hx := B.exec
  have hb := B.bytes
  have hr := B.returns
  have hts := atoms_spec (ws := .code y cc nL rt :: lw_good) B.pre
  have hown : s.vm.findClass y.cls = some m.cls := findClass_of_methodNamed B.named
  have hlocks := B.notSynchronized
  have hin : meth.name = y.name := (name_of_methodNamed B.named B.method).1
  rw [lg_entry_eq]
  have hsl := lg_sl_one hc
  have hle : (lg_sl as).length ≤ nL := by rw [hsl, List.length_map]; exact hl
  have hL := lv_entry as (n := nL) hle
  refine k p e _ s m _ below meth c mc ms _ s.heap [] 0 0 _ ⟨hx, hb, hml, hown, fun w hw => hts w (List.mem_cons_of_mem _ hw), hin, hG, Nat.le_refl _, Nat.le_refl _, hH.1, Nat.le_refl _, Nat.le_refl _, (fun b L xs q => by cases q), ?_⟩ (by omega) (by omega) hH ⟨hL.1, hL.2.1, ?_⟩ va_S.rf
  · intro H locs cells slots pc ls v h2 hQ hRI hH2 hS hk hn
    refine W.widen hk hn ?_
    rcases hRI with ⟨rfl, rfl, hd⟩ | ⟨x, ty, rfl, rfl, hnar, hd⟩ | ⟨r, ty, rfl, rfl, hty, hd⟩
    · exact W.vret hx hb hr (fun t ht hW => ⟨⟨none, h2, rfl, hQ, by rw [ht]; exact hH2⟩, hS.F ht⟩) hS.2.2 hd hlocks
    · exact W.zret hx hb hr hnar (fun t ht hW => ⟨⟨_, h2, rfl, hQ, by rw [ht]; exact hH2⟩, hS.F ht⟩) hS.2.2 hd hlocks
    · exact W.aret hx hb hr hty (by cases r with | none => exact Or.inl rfl | some a => exact Or.inr ⟨a, rfl⟩) (fun t ht hW => ⟨⟨_, h2, rfl, hQ, by rw [ht]; exact hH2⟩, hS.F ht⟩) hS.2.2 hd hlocks
  · intro i v hi
    unfold lent at hi
    by_cases hlt : i < as.length
    · rw [List.getElem?_append_left (by simpa using hlt), List.getElem?_map] at hi
      obtain ⟨w, hw⟩ : ∃ w, as[i]? = some w := ⟨as[i], List.getElem?_eq_getElem hlt⟩
      rw [hw] at hi
      simp only [Option.map_some, Option.some.injEq] at hi
      subst hi
      refine ⟨hc _ (List.mem_of_getElem? hw), ?_⟩
      rw [hsl, List.getElem?_toArray, List.getElem?_append_left (by simpa using hlt), List.getElem?_map, hw]
      rfl
    · rw [List.getElem?_append_right (by simp; omega), List.getElem?_replicate] at hi
      split at hi <;> cases hi
