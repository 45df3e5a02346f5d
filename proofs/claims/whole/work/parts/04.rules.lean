section AWR
variable {X : XG} {l : Launch} {cc : ByteArray} {own nm : String} {rt : Option FieldType} {nL fr : Nat} {scr : Scr} {Q : Post} {k n pc pcn : Nat} {L : List (Option Value)} {st : List Value} {h : Hp}
def bI (b : Bool) : Int32 := if b then 1 else 0
abbrev qi (P : Int32 → Hp → Prop) : Post := fun v h => ∃ r, v = some (.int r) ∧ P r h
abbrev qv (P : Hp → Prop) : Post := fun v h => v = none ∧ P h
abbrev qr (P : Option Nat → Hp → Prop) : Post := fun v h => ∃ r, v = some (va_rf r) ∧ P r h
theorem AW.le {k' n' : Nat} (hk : k' ≤ k) (hn : n' ≤ n) (kk : AW X l cc own nm rt nL fr scr Q k' n' pc L st h) : AW X l cc own nm rt nL fr scr Q k n pc L st h :=
  fun p e R s m args below meth c mc ms Z H locs cells slots ls M h1 h2 hH hL hS => kk p e R s m args below meth c mc ms Z H locs cells slots ls M (by omega) (by omega) hH hL hS
theorem AW.loc {L' : List (Option Value)} (hs : ∀ (i : Nat) (v : Value), L'[i]? = some (some v) → L[i]? = some (some v)) (kk : AW X l cc own nm rt nL fr scr Q k n pc L' st h) : AW X l cc own nm rt nL fr scr Q k n pc L st h :=
  fun p e R s m args below meth c mc ms Z H locs cells slots ls M h1 h2 hH hL hS => kk p e R s m args below meth c mc ms Z H locs cells slots ls M h1 h2 hH (hL.sub hs) hS
theorem AW.post {Q' : Post} (hq : ∀ v h, Q' v h → Q v h) (kk : AW X l cc own nm rt nL fr scr Q' k n pc L st h) : AW X l cc own nm rt nL fr scr Q k n pc L st h :=
  fun p e R s m args below meth c mc ms Z H locs cells slots ls M h1 h2 hH hL hS => kk p e R s m args below meth c mc ms Z H locs cells slots ls ⟨M.1, M.2.1, M.2.2.1, M.2.2.2.1, M.2.2.2.2.1, M.2.2.2.2.2.1, M.2.2.2.2.2.2.1, M.2.2.2.2.2.2.2.1, M.2.2.2.2.2.2.2.2.1, M.2.2.2.2.2.2.2.2.2.1, M.2.2.2.2.2.2.2.2.2.2.1, M.2.2.2.2.2.2.2.2.2.2.2.1, M.2.2.2.2.2.2.2.2.2.2.2.2.1, fun H locs cells slots pc ls v h g => M.2.2.2.2.2.2.2.2.2.2.2.2.2 H locs cells slots pc ls v h (hq v h g)⟩ h1 h2 hH hL hS
theorem aw_iconst {i : Int} {v : Int32} (hd : decode cc pc = .ok (.iconst i, 1)) (hp : pcn = pc + 1) (hv : Int32.ofInt i = v)
    (kk : AW X l cc own nm rt nL fr scr Q k n pcn L (.int v :: st) h) : AW X l cc own nm rt nL fr scr Q k n pc L st h := by
  subst hp
  exact fun p e R s m args below meth c mc ms Z H locs cells slots ls M h1 h2 hH hL hS => lv_iconst M.1 M.2.1 hd hv (kk p e R s m args below meth c mc ms Z H locs cells slots ls M h1 h2 hH hL hS)
theorem aw_bipush {i : Int} {v : Int32} (hd : decode cc pc = .ok (.bipush i, 2)) (hp : pcn = pc + 2) (hv : (Int8.ofInt i).toInt32 = v)
    (kk : AW X l cc own nm rt nL fr scr Q k n pcn L (.int v :: st) h) : AW X l cc own nm rt nL fr scr Q k n pc L st h := by
  subst hp
  exact fun p e R s m args below meth c mc ms Z H locs cells slots ls M h1 h2 hH hL hS => lv_bipush M.1 M.2.1 hd hv (kk p e R s m args below meth c mc ms Z H locs cells slots ls M h1 h2 hH hL hS)
theorem aw_sipush {i : Int} {v : Int32} (hd : decode cc pc = .ok (.sipush i, 3)) (hp : pcn = pc + 3) (hv : (Int16.ofInt i).toInt32 = v)
    (kk : AW X l cc own nm rt nL fr scr Q k n pcn L (.int v :: st) h) : AW X l cc own nm rt nL fr scr Q k n pc L st h := by
  subst hp
  exact fun p e R s m args below meth c mc ms Z H locs cells slots ls M h1 h2 hH hL hS => lv_sipush M.1 M.2.1 hd hv (kk p e R s m args below meth c mc ms Z H locs cells slots ls M h1 h2 hH hL hS)
theorem aw_iload_n {i : Fin 4} {x : Int32} (hd : decode cc pc = .ok (.iload_n i, 1)) (hp : pcn = pc + 1) (hi : L[(i : Nat)]? = some (some (.int x)))
    (kk : AW X l cc own nm rt nL fr scr Q k n pcn L (.int x :: st) h) : AW X l cc own nm rt nL fr scr Q k n pc L st h := by
  subst hp
  exact fun p e R s m args below meth c mc ms Z H locs cells slots ls M h1 h2 hH hL hS => lv_iload_n M.1 M.2.1 hd rfl (hL.at hi) (kk p e R s m args below meth c mc ms Z H locs cells slots ls M h1 h2 hH hL hS)
theorem aw_iload {i : Nat} {x : Int32} (hd : decode cc pc = .ok (.iload i, 2)) (hp : pcn = pc + 2) (hi : L[i]? = some (some (.int x)))
    (kk : AW X l cc own nm rt nL fr scr Q k n pcn L (.int x :: st) h) : AW X l cc own nm rt nL fr scr Q k n pc L st h := by
  subst hp
  exact fun p e R s m args below meth c mc ms Z H locs cells slots ls M h1 h2 hH hL hS => lv_iload M.1 M.2.1 hd (hL.at hi) (kk p e R s m args below meth c mc ms Z H locs cells slots ls M h1 h2 hH hL hS)
theorem aw_aload_n {i : Fin 4} {r : Option Nat} {v : Value} (hd : decode cc pc = .ok (.aload_n i, 1)) (hp : pcn = pc + 1) (hi : L[(i : Nat)]? = some (some v)) (hr : v = va_rf r)
    (kk : AW X l cc own nm rt nL fr scr Q k n pcn L (v :: st) h) : AW X l cc own nm rt nL fr scr Q k n pc L st h := by
  subst hp
  subst hr
  cases r with
  | none => exact fun p e R s m args below meth c mc ms Z H locs cells slots ls M h1 h2 hH hL hS => lv_aload_nN M.1 M.2.1 hd rfl (hL.at hi) (kk p e R s m args below meth c mc ms Z H locs cells slots ls M h1 h2 hH hL hS)
  | some a => exact fun p e R s m args below meth c mc ms Z H locs cells slots ls M h1 h2 hH hL hS => lv_aload_n M.1 M.2.1 hd rfl (hL.at hi) (kk p e R s m args below meth c mc ms Z H locs cells slots ls M h1 h2 hH hL hS)
theorem aw_aload {i : Nat} {r : Option Nat} {v : Value} (hd : decode cc pc = .ok (.aload i, 2)) (hp : pcn = pc + 2) (hi : L[i]? = some (some v)) (hr : v = va_rf r)
    (kk : AW X l cc own nm rt nL fr scr Q k n pcn L (v :: st) h) : AW X l cc own nm rt nL fr scr Q k n pc L st h := by
  subst hp
  subst hr
  cases r with
  | none => exact fun p e R s m args below meth c mc ms Z H locs cells slots ls M h1 h2 hH hL hS => lv_aloadN M.1 M.2.1 hd (hL.at hi) (kk p e R s m args below meth c mc ms Z H locs cells slots ls M h1 h2 hH hL hS)
  | some a => exact fun p e R s m args below meth c mc ms Z H locs cells slots ls M h1 h2 hH hL hS => lv_aload M.1 M.2.1 hd (hL.at hi) (kk p e R s m args below meth c mc ms Z H locs cells slots ls M h1 h2 hH hL hS)
theorem aw_istore_n {i : Fin 4} {x : Int32} (hd : decode cc pc = .ok (.istore_n i, 1)) (hp : pcn = pc + 1) (hi : (i : Nat) < nL)
    (kk : AW X l cc own nm rt nL fr scr Q k n pcn (L.set (i : Nat) (some (.int x))) st h) : AW X l cc own nm rt nL fr scr Q k n pc L (.int x :: st) h := by
  subst hp
  exact fun p e R s m args below meth c mc ms Z H locs cells slots ls M h1 h2 hH hL hS => lv_istore_n M.1 M.2.1 hd rfl hL.has hi rfl (fun ls' hl' => kk p e R s m args below meth c mc ms Z H locs cells slots ls' M h1 h2 hH (hL.st rfl hl') hS)
theorem aw_istore {i : Nat} {x : Int32} (hd : decode cc pc = .ok (.istore i, 2)) (hp : pcn = pc + 2) (hi : i < nL)
    (kk : AW X l cc own nm rt nL fr scr Q k n pcn (L.set i (some (.int x))) st h) : AW X l cc own nm rt nL fr scr Q k n pc L (.int x :: st) h := by
  subst hp
  exact fun p e R s m args below meth c mc ms Z H locs cells slots ls M h1 h2 hH hL hS => lv_istore M.1 M.2.1 hd hL.has hi rfl (fun ls' hl' => kk p e R s m args below meth c mc ms Z H locs cells slots ls' M h1 h2 hH (hL.st rfl hl') hS)
theorem aw_astore_n {i : Fin 4} {r : Option Nat} {v : Value} (hd : decode cc pc = .ok (.astore_n i, 1)) (hp : pcn = pc + 1) (hi : (i : Nat) < nL) (hr : v = va_rf r)
    (kk : AW X l cc own nm rt nL fr scr Q k n pcn (L.set (i : Nat) (some v)) st h) : AW X l cc own nm rt nL fr scr Q k n pc L (v :: st) h := by
  subst hp
  subst hr
  cases r with
  | none => exact fun p e R s m args below meth c mc ms Z H locs cells slots ls M h1 h2 hH hL hS => lv_astore_nN M.1 M.2.1 hd rfl hL.has hi rfl (fun ls' hl' => kk p e R s m args below meth c mc ms Z H locs cells slots ls' M h1 h2 hH (hL.st rfl hl') hS)
  | some a => exact fun p e R s m args below meth c mc ms Z H locs cells slots ls M h1 h2 hH hL hS => lv_astore_n M.1 M.2.1 hd rfl hL.has hi rfl (fun ls' hl' => kk p e R s m args below meth c mc ms Z H locs cells slots ls' M h1 h2 hH (hL.st rfl hl') hS)
theorem aw_astore {i : Nat} {r : Option Nat} {v : Value} (hd : decode cc pc = .ok (.astore i, 2)) (hp : pcn = pc + 2) (hi : i < nL) (hr : v = va_rf r)
    (kk : AW X l cc own nm rt nL fr scr Q k n pcn (L.set i (some v)) st h) : AW X l cc own nm rt nL fr scr Q k n pc L (v :: st) h := by
  subst hp
  subst hr
  cases r with
  | none => exact fun p e R s m args below meth c mc ms Z H locs cells slots ls M h1 h2 hH hL hS => lv_astoreN M.1 M.2.1 hd hL.has hi rfl (fun ls' hl' => kk p e R s m args below meth c mc ms Z H locs cells slots ls' M h1 h2 hH (hL.st rfl hl') hS)
  | some a => exact fun p e R s m args below meth c mc ms Z H locs cells slots ls M h1 h2 hH hL hS => lv_astore M.1 M.2.1 hd hL.has hi rfl (fun ls' hl' => kk p e R s m args below meth c mc ms Z H locs cells slots ls' M h1 h2 hH (hL.st rfl hl') hS)
theorem aw_iinc {i : Nat} {d : Int} {x v : Int32} (hd : decode cc pc = .ok (.iinc i d, 3)) (hp : pcn = pc + 3) (hi : i < nL) (hx : L[i]? = some (some (.int x))) (hv : x + Int32.ofInt d = v)
    (kk : AW X l cc own nm rt nL fr scr Q k n pcn (L.set i (some (.int v))) st h) : AW X l cc own nm rt nL fr scr Q k n pc L st h := by
  subst hp
  intro p e R s m args below meth c mc ms Z H locs cells slots ls M h1 h2 hH hL hS
  obtain ⟨q, hq⟩ := List.getElem?_of_mem (lpairs_mem.mpr hx)
  exact lv_iinc M.1 M.2.1 hd hL.has hq hv hi rfl (fun ls' hl' => kk p e R s m args below meth c mc ms Z H locs cells slots ls' M h1 h2 hH (hL.st rfl hl') hS)
theorem aw_iadd {x y : Int32} (hd : decode cc pc = .ok (.iadd, 1)) (hp : pcn = pc + 1) 
    (kk : AW X l cc own nm rt nL fr scr Q k n pcn L (.int (x + y) :: st) h) : AW X l cc own nm rt nL fr scr Q k n pc L (.int y :: .int x :: st) h := by
  subst hp
  exact fun p e R s m args below meth c mc ms Z H locs cells slots ls M h1 h2 hH hL hS => lv_iadd M.1 M.2.1 hd  (kk p e R s m args below meth c mc ms Z H locs cells slots ls M h1 h2 hH hL hS)
theorem aw_isub {x y : Int32} (hd : decode cc pc = .ok (.isub, 1)) (hp : pcn = pc + 1) 
    (kk : AW X l cc own nm rt nL fr scr Q k n pcn L (.int (x - y) :: st) h) : AW X l cc own nm rt nL fr scr Q k n pc L (.int y :: .int x :: st) h := by
  subst hp
  exact fun p e R s m args below meth c mc ms Z H locs cells slots ls M h1 h2 hH hL hS => lv_isub M.1 M.2.1 hd  (kk p e R s m args below meth c mc ms Z H locs cells slots ls M h1 h2 hH hL hS)
theorem aw_imul {x y : Int32} (hd : decode cc pc = .ok (.imul, 1)) (hp : pcn = pc + 1) 
    (kk : AW X l cc own nm rt nL fr scr Q k n pcn L (.int (x * y) :: st) h) : AW X l cc own nm rt nL fr scr Q k n pc L (.int y :: .int x :: st) h := by
  subst hp
  exact fun p e R s m args below meth c mc ms Z H locs cells slots ls M h1 h2 hH hL hS => lv_imul M.1 M.2.1 hd  (kk p e R s m args below meth c mc ms Z H locs cells slots ls M h1 h2 hH hL hS)
theorem aw_iand {x y : Int32} (hd : decode cc pc = .ok (.iand, 1)) (hp : pcn = pc + 1) 
    (kk : AW X l cc own nm rt nL fr scr Q k n pcn L (.int (x &&& y) :: st) h) : AW X l cc own nm rt nL fr scr Q k n pc L (.int y :: .int x :: st) h := by
  subst hp
  exact fun p e R s m args below meth c mc ms Z H locs cells slots ls M h1 h2 hH hL hS => lv_iand M.1 M.2.1 hd  (kk p e R s m args below meth c mc ms Z H locs cells slots ls M h1 h2 hH hL hS)
theorem aw_ior {x y : Int32} (hd : decode cc pc = .ok (.ior, 1)) (hp : pcn = pc + 1) 
    (kk : AW X l cc own nm rt nL fr scr Q k n pcn L (.int (x ||| y) :: st) h) : AW X l cc own nm rt nL fr scr Q k n pc L (.int y :: .int x :: st) h := by
  subst hp
  exact fun p e R s m args below meth c mc ms Z H locs cells slots ls M h1 h2 hH hL hS => lv_ior M.1 M.2.1 hd  (kk p e R s m args below meth c mc ms Z H locs cells slots ls M h1 h2 hH hL hS)
theorem aw_ixor {x y : Int32} (hd : decode cc pc = .ok (.ixor, 1)) (hp : pcn = pc + 1) 
    (kk : AW X l cc own nm rt nL fr scr Q k n pcn L (.int (x ^^^ y) :: st) h) : AW X l cc own nm rt nL fr scr Q k n pc L (.int y :: .int x :: st) h := by
  subst hp
  exact fun p e R s m args below meth c mc ms Z H locs cells slots ls M h1 h2 hH hL hS => lv_ixor M.1 M.2.1 hd  (kk p e R s m args below meth c mc ms Z H locs cells slots ls M h1 h2 hH hL hS)
theorem aw_ishl {x y : Int32} (hd : decode cc pc = .ok (.ishl, 1)) (hp : pcn = pc + 1) 
    (kk : AW X l cc own nm rt nL fr scr Q k n pcn L (.int (x <<< (y &&& 31)) :: st) h) : AW X l cc own nm rt nL fr scr Q k n pc L (.int y :: .int x :: st) h := by
  subst hp
  exact fun p e R s m args below meth c mc ms Z H locs cells slots ls M h1 h2 hH hL hS => lv_ishl M.1 M.2.1 hd  (kk p e R s m args below meth c mc ms Z H locs cells slots ls M h1 h2 hH hL hS)
theorem aw_ishr {x y : Int32} (hd : decode cc pc = .ok (.ishr, 1)) (hp : pcn = pc + 1) 
    (kk : AW X l cc own nm rt nL fr scr Q k n pcn L (.int (x >>> (y &&& 31)) :: st) h) : AW X l cc own nm rt nL fr scr Q k n pc L (.int y :: .int x :: st) h := by
  subst hp
  exact fun p e R s m args below meth c mc ms Z H locs cells slots ls M h1 h2 hH hL hS => lv_ishr M.1 M.2.1 hd  (kk p e R s m args below meth c mc ms Z H locs cells slots ls M h1 h2 hH hL hS)
theorem aw_irem {x y : Int32} (hd : decode cc pc = .ok (.irem, 1)) (hp : pcn = pc + 1) (hne : ¬ y = 0)
    (kk : AW X l cc own nm rt nL fr scr Q k n pcn L (.int (x - x / y * y) :: st) h) : AW X l cc own nm rt nL fr scr Q k n pc L (.int y :: .int x :: st) h := by
  subst hp
  exact fun p e R s m args below meth c mc ms Z H locs cells slots ls M h1 h2 hH hL hS => lv_irem M.1 M.2.1 hd hne (kk p e R s m args below meth c mc ms Z H locs cells slots ls M h1 h2 hH hL hS)
theorem aw_ineg {x : Int32} (hd : decode cc pc = .ok (.ineg, 1)) (hp : pcn = pc + 1) 
    (kk : AW X l cc own nm rt nL fr scr Q k n pcn L (.int (-x) :: st) h) : AW X l cc own nm rt nL fr scr Q k n pc L (.int x :: st) h := by
  subst hp
  exact fun p e R s m args below meth c mc ms Z H locs cells slots ls M h1 h2 hH hL hS => lv_ineg M.1 M.2.1 hd  (kk p e R s m args below meth c mc ms Z H locs cells slots ls M h1 h2 hH hL hS)
theorem aw_iushr {x y v : Int32} (hd : decode cc pc = .ok (.iushr, 1)) (hp : pcn = pc + 1) (hv : (x.toUInt32 >>> (y.toUInt32 &&& Int32.toUInt32 31)).toInt32 = v)
    (kk : AW X l cc own nm rt nL fr scr Q k n pcn L (.int v :: st) h) : AW X l cc own nm rt nL fr scr Q k n pc L (.int y :: .int x :: st) h := by
  subst hp
  exact fun p e R s m args below meth c mc ms Z H locs cells slots ls M h1 h2 hH hL hS => lv_iushr M.1 M.2.1 hd hv (kk p e R s m args below meth c mc ms Z H locs cells slots ls M h1 h2 hH hL hS)
theorem aw_dup {v : Value} (hd : decode cc pc = .ok (.dup, 1)) (hp : pcn = pc + 1) (hv : v.category = 1)
    (kk : AW X l cc own nm rt nL fr scr Q k n pcn L (v :: v :: st) h) : AW X l cc own nm rt nL fr scr Q k n pc L (v :: st) h := by
  subst hp
  exact fun p e R s m args below meth c mc ms Z H locs cells slots ls M h1 h2 hH hL hS => lv_dup M.1 M.2.1 hd hv (kk p e R s m args below meth c mc ms Z H locs cells slots ls M h1 h2 hH hL hS)
theorem aw_pop {v : Value} (hd : decode cc pc = .ok (.pop, 1)) (hp : pcn = pc + 1) (hv : v.category = 1)
    (kk : AW X l cc own nm rt nL fr scr Q k n pcn L st h) : AW X l cc own nm rt nL fr scr Q k n pc L (v :: st) h := by
  subst hp
  exact fun p e R s m args below meth c mc ms Z H locs cells slots ls M h1 h2 hH hL hS => lv_pop M.1 M.2.1 hd hv (kk p e R s m args below meth c mc ms Z H locs cells slots ls M h1 h2 hH hL hS)
theorem aw_dup2 {u v : Value} (hd : decode cc pc = .ok (.dup2, 1)) (hp : pcn = pc + 1) (hu : u.category = 1) (hv : v.category = 1)
    (kk : AW X l cc own nm rt nL fr scr Q k n pcn L (u :: v :: u :: v :: st) h) : AW X l cc own nm rt nL fr scr Q k n pc L (u :: v :: st) h := by
  subst hp
  exact fun p e R s m args below meth c mc ms Z H locs cells slots ls M h1 h2 hH hL hS => lv_dup2_11 M.1 M.2.1 hd hu hv (kk p e R s m args below meth c mc ms Z H locs cells slots ls M h1 h2 hH hL hS)
theorem aw_null  (hd : decode cc pc = .ok (.aconst_null, 1)) (hp : pcn = pc + 1) 
    (kk : AW X l cc own nm rt nL fr scr Q k n pcn L (.null :: st) h) : AW X l cc own nm rt nL fr scr Q k n pc L st h := by
  subst hp
  exact fun p e R s m args below meth c mc ms Z H locs cells slots ls M h1 h2 hH hL hS => lv_null M.1 M.2.1 hd  (kk p e R s m args below meth c mc ms Z H locs cells slots ls M h1 h2 hH hL hS)
theorem aw_ldc {i : Nat} {v : Int32} (hc : Cond.constant own i v ∈ lw_good) (hd : decode cc pc = .ok (.ldc i, 2)) (hp : pcn = pc + 2)
    (kk : AW X l cc own nm rt nL fr scr Q k n pcn L (.int v :: st) h) : AW X l cc own nm rt nL fr scr Q k n pc L st h := by
  subst hp
  exact fun p e R s m args below meth c mc ms Z H locs cells slots ls M h1 h2 hH hL hS => lv_ldc M.1 M.2.1 M.2.2.2.1 (M.2.2.2.2.1 _ hc) hd (kk p e R s m args below meth c mc ms Z H locs cells slots ls M h1 h2 hH hL hS)
theorem aw_ldc_w {i : Nat} {v : Int32} (hc : Cond.constant own i v ∈ lw_good) (hd : decode cc pc = .ok (.ldc_w i, 3)) (hp : pcn = pc + 3)
    (kk : AW X l cc own nm rt nL fr scr Q k n pcn L (.int v :: st) h) : AW X l cc own nm rt nL fr scr Q k n pc L st h := by
  subst hp
  exact fun p e R s m args below meth c mc ms Z H locs cells slots ls M h1 h2 hH hL hS => lv_ldcw M.1 M.2.1 M.2.2.2.1 (M.2.2.2.2.1 _ hc) hd (kk p e R s m args below meth c mc ms Z H locs cells slots ls M h1 h2 hH hL hS)
theorem aw_goto {off : Int} {t : Nat} (hd : decode cc pc = .ok (.goto off, 3)) (ht : (pc : Int) + off = (t : Int))
    (kk : AW X l cc own nm rt nL fr scr Q k n t L st h) : AW X l cc own nm rt nL fr scr Q k n pc L st h :=
  fun p e R s m args below meth c mc ms Z H locs cells slots ls M h1 h2 hH hL hS => lv_goto M.1 M.2.1 hd ht (kk p e R s m args below meth c mc ms Z H locs cells slots ls M h1 h2 hH hL hS)
theorem aw_if_eq {x : Int32} {off : Int} {t : Nat} (hd : decode cc pc = .ok (.ifCond .eq off, 3)) (hp : pcn = pc + 3) (ht : (pc : Int) + off = (t : Int))
    (kt : x = 0 → AW X l cc own nm rt nL fr scr Q k n t L st h) (kf : ¬ x = 0 → AW X l cc own nm rt nL fr scr Q k n pcn L st h) : AW X l cc own nm rt nL fr scr Q k n pc L (.int x :: st) h := by
  subst hp
  exact fun p e R s m args below meth c mc ms Z H locs cells slots ls M h1 h2 hH hL hS => lv_if_eq M.1 M.2.1 hd ht (fun q => kt q p e R s m args below meth c mc ms Z H locs cells slots ls M h1 h2 hH hL hS) (fun q => kf q p e R s m args below meth c mc ms Z H locs cells slots ls M h1 h2 hH hL hS)
theorem aw_icmp_eq {x y : Int32} {off : Int} {t : Nat} (hd : decode cc pc = .ok (.if_icmp .eq off, 3)) (hp : pcn = pc + 3) (ht : (pc : Int) + off = (t : Int))
    (kt : x = y → AW X l cc own nm rt nL fr scr Q k n t L st h) (kf : ¬ x = y → AW X l cc own nm rt nL fr scr Q k n pcn L st h) : AW X l cc own nm rt nL fr scr Q k n pc L (.int y :: .int x :: st) h := by
  subst hp
  exact fun p e R s m args below meth c mc ms Z H locs cells slots ls M h1 h2 hH hL hS => lv_icmp_eq M.1 M.2.1 hd ht (fun q => kt q p e R s m args below meth c mc ms Z H locs cells slots ls M h1 h2 hH hL hS) (fun q => kf q p e R s m args below meth c mc ms Z H locs cells slots ls M h1 h2 hH hL hS)
theorem aw_if_ne {x : Int32} {off : Int} {t : Nat} (hd : decode cc pc = .ok (.ifCond .ne off, 3)) (hp : pcn = pc + 3) (ht : (pc : Int) + off = (t : Int))
    (kt : ¬ x = 0 → AW X l cc own nm rt nL fr scr Q k n t L st h) (kf : x = 0 → AW X l cc own nm rt nL fr scr Q k n pcn L st h) : AW X l cc own nm rt nL fr scr Q k n pc L (.int x :: st) h := by
  subst hp
  exact fun p e R s m args below meth c mc ms Z H locs cells slots ls M h1 h2 hH hL hS => lv_if_ne M.1 M.2.1 hd ht (fun q => kt q p e R s m args below meth c mc ms Z H locs cells slots ls M h1 h2 hH hL hS) (fun q => kf q p e R s m args below meth c mc ms Z H locs cells slots ls M h1 h2 hH hL hS)
theorem aw_icmp_ne {x y : Int32} {off : Int} {t : Nat} (hd : decode cc pc = .ok (.if_icmp .ne off, 3)) (hp : pcn = pc + 3) (ht : (pc : Int) + off = (t : Int))
    (kt : ¬ x = y → AW X l cc own nm rt nL fr scr Q k n t L st h) (kf : x = y → AW X l cc own nm rt nL fr scr Q k n pcn L st h) : AW X l cc own nm rt nL fr scr Q k n pc L (.int y :: .int x :: st) h := by
  subst hp
  exact fun p e R s m args below meth c mc ms Z H locs cells slots ls M h1 h2 hH hL hS => lv_icmp_ne M.1 M.2.1 hd ht (fun q => kt q p e R s m args below meth c mc ms Z H locs cells slots ls M h1 h2 hH hL hS) (fun q => kf q p e R s m args below meth c mc ms Z H locs cells slots ls M h1 h2 hH hL hS)
theorem aw_if_lt {x : Int32} {off : Int} {t : Nat} (hd : decode cc pc = .ok (.ifCond .lt off, 3)) (hp : pcn = pc + 3) (ht : (pc : Int) + off = (t : Int))
    (kt : x < 0 → AW X l cc own nm rt nL fr scr Q k n t L st h) (kf : ¬ x < 0 → AW X l cc own nm rt nL fr scr Q k n pcn L st h) : AW X l cc own nm rt nL fr scr Q k n pc L (.int x :: st) h := by
  subst hp
  exact fun p e R s m args below meth c mc ms Z H locs cells slots ls M h1 h2 hH hL hS => lv_if_lt M.1 M.2.1 hd ht (fun q => kt q p e R s m args below meth c mc ms Z H locs cells slots ls M h1 h2 hH hL hS) (fun q => kf q p e R s m args below meth c mc ms Z H locs cells slots ls M h1 h2 hH hL hS)
theorem aw_icmp_lt {x y : Int32} {off : Int} {t : Nat} (hd : decode cc pc = .ok (.if_icmp .lt off, 3)) (hp : pcn = pc + 3) (ht : (pc : Int) + off = (t : Int))
    (kt : x < y → AW X l cc own nm rt nL fr scr Q k n t L st h) (kf : ¬ x < y → AW X l cc own nm rt nL fr scr Q k n pcn L st h) : AW X l cc own nm rt nL fr scr Q k n pc L (.int y :: .int x :: st) h := by
  subst hp
  exact fun p e R s m args below meth c mc ms Z H locs cells slots ls M h1 h2 hH hL hS => lv_icmp_lt M.1 M.2.1 hd ht (fun q => kt q p e R s m args below meth c mc ms Z H locs cells slots ls M h1 h2 hH hL hS) (fun q => kf q p e R s m args below meth c mc ms Z H locs cells slots ls M h1 h2 hH hL hS)
theorem aw_if_ge {x : Int32} {off : Int} {t : Nat} (hd : decode cc pc = .ok (.ifCond .ge off, 3)) (hp : pcn = pc + 3) (ht : (pc : Int) + off = (t : Int))
    (kt : 0 ≤ x → AW X l cc own nm rt nL fr scr Q k n t L st h) (kf : ¬ 0 ≤ x → AW X l cc own nm rt nL fr scr Q k n pcn L st h) : AW X l cc own nm rt nL fr scr Q k n pc L (.int x :: st) h := by
  subst hp
  exact fun p e R s m args below meth c mc ms Z H locs cells slots ls M h1 h2 hH hL hS => lv_if_ge M.1 M.2.1 hd ht (fun q => kt q p e R s m args below meth c mc ms Z H locs cells slots ls M h1 h2 hH hL hS) (fun q => kf q p e R s m args below meth c mc ms Z H locs cells slots ls M h1 h2 hH hL hS)
theorem aw_icmp_ge {x y : Int32} {off : Int} {t : Nat} (hd : decode cc pc = .ok (.if_icmp .ge off, 3)) (hp : pcn = pc + 3) (ht : (pc : Int) + off = (t : Int))
    (kt : y ≤ x → AW X l cc own nm rt nL fr scr Q k n t L st h) (kf : ¬ y ≤ x → AW X l cc own nm rt nL fr scr Q k n pcn L st h) : AW X l cc own nm rt nL fr scr Q k n pc L (.int y :: .int x :: st) h := by
  subst hp
  exact fun p e R s m args below meth c mc ms Z H locs cells slots ls M h1 h2 hH hL hS => lv_icmp_ge M.1 M.2.1 hd ht (fun q => kt q p e R s m args below meth c mc ms Z H locs cells slots ls M h1 h2 hH hL hS) (fun q => kf q p e R s m args below meth c mc ms Z H locs cells slots ls M h1 h2 hH hL hS)
theorem aw_if_gt {x : Int32} {off : Int} {t : Nat} (hd : decode cc pc = .ok (.ifCond .gt off, 3)) (hp : pcn = pc + 3) (ht : (pc : Int) + off = (t : Int))
    (kt : 0 < x → AW X l cc own nm rt nL fr scr Q k n t L st h) (kf : ¬ 0 < x → AW X l cc own nm rt nL fr scr Q k n pcn L st h) : AW X l cc own nm rt nL fr scr Q k n pc L (.int x :: st) h := by
  subst hp
  exact fun p e R s m args below meth c mc ms Z H locs cells slots ls M h1 h2 hH hL hS => lv_if_gt M.1 M.2.1 hd ht (fun q => kt q p e R s m args below meth c mc ms Z H locs cells slots ls M h1 h2 hH hL hS) (fun q => kf q p e R s m args below meth c mc ms Z H locs cells slots ls M h1 h2 hH hL hS)
theorem aw_icmp_gt {x y : Int32} {off : Int} {t : Nat} (hd : decode cc pc = .ok (.if_icmp .gt off, 3)) (hp : pcn = pc + 3) (ht : (pc : Int) + off = (t : Int))
    (kt : y < x → AW X l cc own nm rt nL fr scr Q k n t L st h) (kf : ¬ y < x → AW X l cc own nm rt nL fr scr Q k n pcn L st h) : AW X l cc own nm rt nL fr scr Q k n pc L (.int y :: .int x :: st) h := by
  subst hp
  exact fun p e R s m args below meth c mc ms Z H locs cells slots ls M h1 h2 hH hL hS => lv_icmp_gt M.1 M.2.1 hd ht (fun q => kt q p e R s m args below meth c mc ms Z H locs cells slots ls M h1 h2 hH hL hS) (fun q => kf q p e R s m args below meth c mc ms Z H locs cells slots ls M h1 h2 hH hL hS)
theorem aw_if_le {x : Int32} {off : Int} {t : Nat} (hd : decode cc pc = .ok (.ifCond .le off, 3)) (hp : pcn = pc + 3) (ht : (pc : Int) + off = (t : Int))
    (kt : x ≤ 0 → AW X l cc own nm rt nL fr scr Q k n t L st h) (kf : ¬ x ≤ 0 → AW X l cc own nm rt nL fr scr Q k n pcn L st h) : AW X l cc own nm rt nL fr scr Q k n pc L (.int x :: st) h := by
  subst hp
  exact fun p e R s m args below meth c mc ms Z H locs cells slots ls M h1 h2 hH hL hS => lv_if_le M.1 M.2.1 hd ht (fun q => kt q p e R s m args below meth c mc ms Z H locs cells slots ls M h1 h2 hH hL hS) (fun q => kf q p e R s m args below meth c mc ms Z H locs cells slots ls M h1 h2 hH hL hS)
theorem aw_icmp_le {x y : Int32} {off : Int} {t : Nat} (hd : decode cc pc = .ok (.if_icmp .le off, 3)) (hp : pcn = pc + 3) (ht : (pc : Int) + off = (t : Int))
    (kt : x ≤ y → AW X l cc own nm rt nL fr scr Q k n t L st h) (kf : ¬ x ≤ y → AW X l cc own nm rt nL fr scr Q k n pcn L st h) : AW X l cc own nm rt nL fr scr Q k n pc L (.int y :: .int x :: st) h := by
  subst hp
  exact fun p e R s m args below meth c mc ms Z H locs cells slots ls M h1 h2 hH hL hS => lv_icmp_le M.1 M.2.1 hd ht (fun q => kt q p e R s m args below meth c mc ms Z H locs cells slots ls M h1 h2 hH hL hS) (fun q => kf q p e R s m args below meth c mc ms Z H locs cells slots ls M h1 h2 hH hL hS)
theorem bI_0 {b : Bool} : bI b = 0 ↔ b = false := by cases b <;> decide
theorem bI_1 {b : Bool} : ¬ bI b = 0 ↔ b = true := by cases b <;> decide
theorem aw_if_eqB {b : Bool} {off : Int} {t : Nat} (hd : decode cc pc = .ok (.ifCond .eq off, 3)) (hp : pcn = pc + 3) (ht : (pc : Int) + off = (t : Int))
    (kt : b = false → AW X l cc own nm rt nL fr scr Q k n t L st h) (kf : b = true → AW X l cc own nm rt nL fr scr Q k n pcn L st h) : AW X l cc own nm rt nL fr scr Q k n pc L (.int (bI b) :: st) h := aw_if_eq hd hp ht (fun q => kt (bI_0.mp q)) (fun q => kf (bI_1.mp q))
theorem aw_if_neB {b : Bool} {off : Int} {t : Nat} (hd : decode cc pc = .ok (.ifCond .ne off, 3)) (hp : pcn = pc + 3) (ht : (pc : Int) + off = (t : Int))
    (kt : b = true → AW X l cc own nm rt nL fr scr Q k n t L st h) (kf : b = false → AW X l cc own nm rt nL fr scr Q k n pcn L st h) : AW X l cc own nm rt nL fr scr Q k n pc L (.int (bI b) :: st) h := aw_if_ne hd hp ht (fun q => kt (bI_1.mp q)) (fun q => kf (bI_0.mp q))
theorem aw_ifnull {r : Option Nat} {v : Value} {off : Int} {t : Nat} (hd : decode cc pc = .ok (.ifnull off, 3)) (hp : pcn = pc + 3) (ht : (pc : Int) + off = (t : Int)) (hr : v = va_rf r)
    (kt : r = none → AW X l cc own nm rt nL fr scr Q k n t L st h) (kf : ∀ a, r = some a → AW X l cc own nm rt nL fr scr Q k n pcn L st h) : AW X l cc own nm rt nL fr scr Q k n pc L (v :: st) h := by
  subst hp
  subst hr
  cases r with
  | none => exact fun p e R s m args below meth c mc ms Z H locs cells slots ls M h1 h2 hH hL hS => lv_ifnullN M.1 M.2.1 hd ht (kt rfl p e R s m args below meth c mc ms Z H locs cells slots ls M h1 h2 hH hL hS)
  | some a => exact fun p e R s m args below meth c mc ms Z H locs cells slots ls M h1 h2 hH hL hS => lv_ifnull M.1 M.2.1 hd (kf a rfl p e R s m args below meth c mc ms Z H locs cells slots ls M h1 h2 hH hL hS)
theorem aw_ifnonnull {r : Option Nat} {v : Value} {off : Int} {t : Nat} (hd : decode cc pc = .ok (.ifnonnull off, 3)) (hp : pcn = pc + 3) (ht : (pc : Int) + off = (t : Int)) (hr : v = va_rf r)
    (kt : ∀ a, r = some a → AW X l cc own nm rt nL fr scr Q k n t L st h) (kf : r = none → AW X l cc own nm rt nL fr scr Q k n pcn L st h) : AW X l cc own nm rt nL fr scr Q k n pc L (v :: st) h := by
  subst hp
  subst hr
  cases r with
  | none => exact fun p e R s m args below meth c mc ms Z H locs cells slots ls M h1 h2 hH hL hS => lv_ifnonnullN M.1 M.2.1 hd (kf rfl p e R s m args below meth c mc ms Z H locs cells slots ls M h1 h2 hH hL hS)
  | some a => exact fun p e R s m args below meth c mc ms Z H locs cells slots ls M h1 h2 hH hL hS => lv_ifnonnull M.1 M.2.1 hd ht (kt a rfl p e R s m args below meth c mc ms Z H locs cells slots ls M h1 h2 hH hL hS)
theorem aw_acmp_eq {r1 r2 : Option Nat} {v1 v2 : Value} {off : Int} {t : Nat} (hd : decode cc pc = .ok (.if_acmp .eq off, 3)) (hp : pcn = pc + 3) (ht : (pc : Int) + off = (t : Int)) (hv1 : v1 = va_rf r1) (hv2 : v2 = va_rf r2)
    (kt : r1 = r2 → AW X l cc own nm rt nL fr scr Q k n t L st h) (kf : ¬ r1 = r2 → AW X l cc own nm rt nL fr scr Q k n pcn L st h) : AW X l cc own nm rt nL fr scr Q k n pc L (v2 :: v1 :: st) h := by
  subst hp
  subst hv1
  subst hv2
  exact fun p e R s m args below meth c mc ms Z H locs cells slots ls M h1 h2 hH hL hS => lv_acmp_eq M.1 M.2.1 hd ht (fun q => kt q p e R s m args below meth c mc ms Z H locs cells slots ls M h1 h2 hH hL hS) (fun q => kf q p e R s m args below meth c mc ms Z H locs cells slots ls M h1 h2 hH hL hS)
theorem aw_acmp_ne {r1 r2 : Option Nat} {v1 v2 : Value} {off : Int} {t : Nat} (hd : decode cc pc = .ok (.if_acmp .ne off, 3)) (hp : pcn = pc + 3) (ht : (pc : Int) + off = (t : Int)) (hv1 : v1 = va_rf r1) (hv2 : v2 = va_rf r2)
    (kt : ¬ r1 = r2 → AW X l cc own nm rt nL fr scr Q k n t L st h) (kf : r1 = r2 → AW X l cc own nm rt nL fr scr Q k n pcn L st h) : AW X l cc own nm rt nL fr scr Q k n pc L (v2 :: v1 :: st) h := by
  subst hp
  subst hv1
  subst hv2
  exact fun p e R s m args below meth c mc ms Z H locs cells slots ls M h1 h2 hH hL hS => lv_acmp_ne M.1 M.2.1 hd ht (fun q => kt q p e R s m args below meth c mc ms Z H locs cells slots ls M h1 h2 hH hL hS) (fun q => kf q p e R s m args below meth c mc ms Z H locs cells slots ls M h1 h2 hH hL hS)
theorem aw_tsIn {dflt lo hi : Int} {offs : Array Int} {len : Nat} {x : Int32} {off : Int} {t : Nat} (hd : decode cc pc = .ok (.tableswitch dflt lo hi offs, len)) (q1 : ¬ x.toInt < lo) (q2 : ¬ hi < x.toInt) (ho : offs[(x.toInt - lo).toNat]? = some off) (ht : (pc : Int) + off = (t : Int))
    (kk : AW X l cc own nm rt nL fr scr Q k n t L st h) : AW X l cc own nm rt nL fr scr Q k n pc L (.int x :: st) h :=
  fun p e R s m args below meth c mc ms Z H locs cells slots ls M h1 h2 hH hL hS => lv_tableIn M.1 M.2.1 hd q1 q2 ho ht (kk p e R s m args below meth c mc ms Z H locs cells slots ls M h1 h2 hH hL hS)
theorem aw_tsOut {dflt lo hi : Int} {offs : Array Int} {len : Nat} {x : Int32} {t : Nat} (hd : decode cc pc = .ok (.tableswitch dflt lo hi offs, len)) (q1 : x.toInt < lo ∨ hi < x.toInt) (ht : (pc : Int) + dflt = (t : Int))
    (kk : AW X l cc own nm rt nL fr scr Q k n t L st h) : AW X l cc own nm rt nL fr scr Q k n pc L (.int x :: st) h :=
  fun p e R s m args below meth c mc ms Z H locs cells slots ls M h1 h2 hH hL hS => lv_tableOut M.1 M.2.1 hd q1 ht (kk p e R s m args below meth c mc ms Z H locs cells slots ls M h1 h2 hH hL hS)
theorem aw_lsw {dflt : Int} {ps : Array (Int × Int)} {len : Nat} {x : Int32} {off : Int} {t : Nat} (hd : decode cc pc = .ok (.lookupswitch dflt ps, len)) (hq : (ps.toList.zip (ps.toList.drop 1)).all (fun (a, next) => a.1 < next.1) = true) (ho : Op.lookupswitch.offset ps.toList dflt x.toInt = off) (ht : (pc : Int) + off = (t : Int))
    (kk : AW X l cc own nm rt nL fr scr Q k n t L st h) : AW X l cc own nm rt nL fr scr Q k n pc L (.int x :: st) h :=
  fun p e R s m args below meth c mc ms Z H locs cells slots ls M h1 h2 hH hL hS => lv_lookup M.1 M.2.1 hd hq ho ht (kk p e R s m args below meth c mc ms Z H locs cells slots ls M h1 h2 hH hL hS)
theorem aw_ret (hd : decode cc pc = .ok (.return_, 1)) (hr : rt = none) (hq : Q none h) : AW X l cc own nm rt nL fr scr Q k n pc L [] h :=
  fun p e R s m args below meth c mc ms Z H locs cells slots ls M h1 h2 hH hL hS => M.2.2.2.2.2.2.2.2.2.2.2.2.2 H locs cells slots pc ls none h hq (Or.inl ⟨rfl, hr, hd⟩) hH hS (by omega) (by omega)
theorem aw_iret {x : Int32} (hd : decode cc pc = .ok (.ireturn, 1)) (hr : rt = some .int) (hq : Q (some (.int x)) h) : AW X l cc own nm rt nL fr scr Q k n pc L [.int x] h :=
  fun p e R s m args below meth c mc ms Z H locs cells slots ls M h1 h2 hH hL hS => M.2.2.2.2.2.2.2.2.2.2.2.2.2 H locs cells slots pc ls (some (.int x)) h hq (Or.inr (Or.inl ⟨x, .int, rfl, hr, rfl, hd⟩)) hH hS (by omega) (by omega)
theorem nar_bool {x : Int32} (hx : x = 0 ∨ x = 1) : narrow .boolean (.int x) = .int x := by
  rcases hx with rfl | rfl <;> decide +kernel
theorem aw_zret {x : Int32} (hd : decode cc pc = .ok (.ireturn, 1)) (hr : rt = some .boolean) (hx : x = 0 ∨ x = 1) (hq : Q (some (.int x)) h) : AW X l cc own nm rt nL fr scr Q k n pc L [.int x] h :=
  fun p e R s m args below meth c mc ms Z H locs cells slots ls M h1 h2 hH hL hS => M.2.2.2.2.2.2.2.2.2.2.2.2.2 H locs cells slots pc ls (some (.int x)) h hq (Or.inr (Or.inl ⟨x, .boolean, rfl, hr, nar_bool hx, hd⟩)) hH hS (by omega) (by omega)
theorem aw_aret {r : Option Nat} {v : Value} {ty : FieldType} (hd : decode cc pc = .ok (.areturn, 1)) (hr : rt = some ty) (hty : (∃ n, ty = .object n) ∨ ∃ t, ty = .array t) (hv : v = va_rf r) (hq : Q (some (va_rf r)) h) : AW X l cc own nm rt nL fr scr Q k n pc L [v] h := by
  subst hv
  exact fun p e R s m args below meth c mc ms Z H locs cells slots ls M h1 h2 hH hL hS => M.2.2.2.2.2.2.2.2.2.2.2.2.2 H locs cells slots pc ls (some (va_rf r)) h hq (Or.inr (Or.inr ⟨r, ty, rfl, hr, hty, hd⟩)) hH hS (by omega) (by omega)
end AWR
