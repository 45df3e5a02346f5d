/-! rules over numbers nI n, and of the reference's arrays -/
theorem nI_one : nI 1 = 1 := by decide
theorem rf_some (a : Nat) : Value.ref a = va_rf (some a) := rfl
theorem rf_none : Value.null = va_rf none := rfl
section AWN
variable {X : XG} {l : Launch} {cc : ByteArray} {own nm : String} {rt : Option FieldType} {nL fr : Nat} {scr : Scr} {Q : Post} {k n pc pcn : Nat} {L : List (Option Value)} {st : List Value} {h : Hp}
variable {Γ : NM} {ow : Nat → Nat × Nat} {T Tr : TB} {nh : Nat}
theorem aw_iaddN {a b : Nat} (hd : decode cc pc = .ok (.iadd, 1)) (hp : pcn = pc + 1) (kk : AW X l cc own nm rt nL fr scr Q k n pcn L (.int (nI (a + b)) :: st) h) : AW X l cc own nm rt nL fr scr Q k n pc L (.int (nI b) :: .int (nI a) :: st) h :=
  aw_iadd hd hp (by rw [nI_add]; exact kk)
theorem aw_imulN {a b : Nat} (hd : decode cc pc = .ok (.imul, 1)) (hp : pcn = pc + 1) (kk : AW X l cc own nm rt nL fr scr Q k n pcn L (.int (nI (a * b)) :: st) h) : AW X l cc own nm rt nL fr scr Q k n pc L (.int (nI b) :: .int (nI a) :: st) h :=
  aw_imul hd hp (by rw [pk_mul]; exact kk)
theorem aw_isubN {a b : Nat} (hle : b ≤ a) (hd : decode cc pc = .ok (.isub, 1)) (hp : pcn = pc + 1) (kk : AW X l cc own nm rt nL fr scr Q k n pcn L (.int (nI (a - b)) :: st) h) : AW X l cc own nm rt nL fr scr Q k n pc L (.int (nI b) :: .int (nI a) :: st) h :=
  aw_isub hd hp (by rw [pk_sub hle]; exact kk)
theorem aw_iincN {i m : Nat} (hd : decode cc pc = .ok (.iinc i 1, 3)) (hp : pcn = pc + 3) (hi : i < nL) (hx : L[i]? = some (some (.int (nI m)))) (kk : AW X l cc own nm rt nL fr scr Q k n pcn (L.set i (some (.int (nI (m + 1))))) st h) : AW X l cc own nm rt nL fr scr Q k n pc L st h :=
  aw_iinc hd hp hi hx (nI_1 m) kk
theorem aw_ialdN {a N m : Nat} {f : Nat → Int32} (hN : N < 2 ^ 31) (hd : decode cc pc = .ok (.iaload, 1)) (hp : pcn = pc + 1) (ha : h a = some (ia N f)) (hn : m < N) (kk : AW X l cc own nm rt nL fr scr Q k n pcn L (.int (f m) :: st) h) : AW X l cc own nm rt nL fr scr Q k n pc L (.int (nI m) :: .ref a :: st) h :=
  aw_iald hd hp ha (vp_in_nI hn hN) (by rw [nI_clamp (by omega)]; exact kk)
theorem aw_iastN {a N m : Nat} {f : Nat → Int32} {x : Int32} (hN : N < 2 ^ 31) (hd : decode cc pc = .ok (.iastore, 1)) (hp : pcn = pc + 1) (ha : h a = some (ia N f)) (hn : m < N) (kk : AW X l cc own nm rt nL fr scr Q k n pcn L st (hup h a (ia N (upd f m x)))) : AW X l cc own nm rt nL fr scr Q k n pc L (.int x :: .int (nI m) :: .ref a :: st) h :=
  aw_iast hd hp ha (vp_in_nI hn hN) (by rw [nI_clamp (by omega)]; exact kk)
theorem aw_aaldN {a t N m : Nat} {f : Nat → Option Nat} (hN : N < 2 ^ 31) (hd : decode cc pc = .ok (.aaload, 1)) (hp : pcn = pc + 1) (ha : h a = some (ra t N f)) (ht : 1 ≤ t ∧ t ≤ 4) (hn : m < N) (kk : AW X l cc own nm rt nL fr scr Q k n pcn L (va_rf (f m) :: st) h) : AW X l cc own nm rt nL fr scr Q k n pc L (.int (nI m) :: .ref a :: st) h :=
  aw_aald hd hp ha ht (vp_in_nI hn hN) (by rw [nI_clamp (by omega)]; exact kk)
theorem mlen_lt (j : Nat) : mlen j < 2 ^ 31 := by
  unfold mlen
  split <;> decide
theorem aw_ialdM {j m : Nat} (hW : WD Γ ow h T Tr nh) (hd : decode cc pc = .ok (.iaload, 1)) (hp : pcn = pc + 1) (hn : m < mlen j) (kk : AW X l cc own nm rt nL fr scr Q k n pcn L (.int (Tr j m) :: st) h) : AW X l cc own nm rt nL fr scr Q k n pc L (.int (nI m) :: .ref (Γ 15 j) :: st) h :=
  aw_ialdN (mlen_lt j) hd hp (hW.ma (by omega)) hn kk
theorem aw_iastM {j m : Nat} {x : Int32} (hW : WD Γ ow h T Tr nh) (hd : decode cc pc = .ok (.iastore, 1)) (hp : pcn = pc + 1) (hn : m < mlen j) (kk : ∀ h, WD Γ ow h T (up Tr j m x) nh → AW X l cc own nm rt nL fr scr Q k n pcn L st h) : AW X l cc own nm rt nL fr scr Q k n pc L (.int x :: .int (nI m) :: .ref (Γ 15 j) :: st) h :=
  aw_iastN (mlen_lt j) hd hp (hW.ma (by omega)) hn (kk _ (hW.mrow (by omega)))
theorem aw_putM {idx j : Nat} {x : Int32} (hW : WD Γ ow h T Tr nh) (hF : FPK own idx 7 j .int) (hj : mlen j = 0) (hs : (moF Γ Tr).set j (.int x) = moF Γ (up Tr j 0 x)) (hl : j < 24) (hd : decode cc pc = .ok (.putfield idx, 3)) (hp : pcn = pc + 3) (kk : ∀ h, WD Γ ow h T (up Tr j 0 x) nh → AW X l cc own nm rt nL fr scr Q k n pcn L st h) : AW X l cc own nm rt nL fr scr Q k n pc L (.int x :: .ref (Γ 14 0) :: st) h :=
  aw_putf hF hd hp hW.mo hl (VF.i x) (by rw [hs]; exact kk _ (hW.mscal hj))
theorem aw_ilo {i : Fin 4} (j : Nat) {x : Int32} (hj : (i : Nat) = j) (hd : decode cc pc = .ok (.iload_n i, 1)) (hp : pcn = pc + 1) (hi : L[j]? = some (some (.int x))) (kk : AW X l cc own nm rt nL fr scr Q k n pcn L (.int x :: st) h) : AW X l cc own nm rt nL fr scr Q k n pc L st h := by
  subst hj
  exact aw_iload_n hd hp hi kk
theorem aw_alo {i : Fin 4} (j : Nat) {r : Option Nat} {v : Value} (hj : (i : Nat) = j) (hd : decode cc pc = .ok (.aload_n i, 1)) (hp : pcn = pc + 1) (hi : L[j]? = some (some v)) (hr : v = va_rf r) (kk : AW X l cc own nm rt nL fr scr Q k n pcn L (v :: st) h) : AW X l cc own nm rt nL fr scr Q k n pc L st h := by
  subst hj
  exact aw_aload_n hd hp hi hr kk
theorem aw_ist {i : Fin 4} (j : Nat) {x : Int32} (hj : (i : Nat) = j) (hd : decode cc pc = .ok (.istore_n i, 1)) (hp : pcn = pc + 1) (hi : j < nL) (kk : AW X l cc own nm rt nL fr scr Q k n pcn (L.set j (some (.int x))) st h) : AW X l cc own nm rt nL fr scr Q k n pc L (.int x :: st) h := by
  subst hj
  exact aw_istore_n hd hp hi kk
theorem aw_ast {i : Fin 4} (j : Nat) {r : Option Nat} {v : Value} (hj : (i : Nat) = j) (hd : decode cc pc = .ok (.astore_n i, 1)) (hp : pcn = pc + 1) (hi : j < nL) (hr : v = va_rf r) (kk : AW X l cc own nm rt nL fr scr Q k n pcn (L.set j (some v)) st h) : AW X l cc own nm rt nL fr scr Q k n pc L (v :: st) h := by
  subst hj
  exact aw_astore_n hd hp hi hr kk
end AWN
theorem ms_1 (Γ : NM) (T : TB) (x : Int32) : (moF Γ T).set 1 (.int x) = moF Γ (up T 1 0 x) := by simp [moF, up]
theorem ms_2 (Γ : NM) (T : TB) (x : Int32) : (moF Γ T).set 2 (.int x) = moF Γ (up T 2 0 x) := by simp [moF, up]
theorem ms_3 (Γ : NM) (T : TB) (x : Int32) : (moF Γ T).set 3 (.int x) = moF Γ (up T 3 0 x) := by simp [moF, up]
theorem ms_5 (Γ : NM) (T : TB) (x : Int32) : (moF Γ T).set 5 (.int x) = moF Γ (up T 5 0 x) := by simp [moF, up]
theorem ms_18 (Γ : NM) (T : TB) (x : Int32) : (moF Γ T).set 18 (.int x) = moF Γ (up T 18 0 x) := by simp [moF, up]
theorem ms_20 (Γ : NM) (T : TB) (x : Int32) : (moF Γ T).set 20 (.int x) = moF Γ (up T 20 0 x) := by simp [moF, up]
theorem WD.ghost {Γ : NM} {ow : Nat → Nat × Nat} {h : Hp} {T Tr : TB} {nh j i : Nat} {v : Int32} (H : WD Γ ow h T Tr nh) (hj : 24 ≤ j) : WD Γ ow h T (up Tr j i v) nh := by
  refine ⟨H.1, fun k' i' g => ?_⟩
  obtain ⟨c, h1, h2⟩ := H.2 k' i' g
  refine ⟨c, h1, ?_⟩
  match k', g, h2 with
  | 0, _, hd => exact hd
  | 1, _, hd => exact hd
  | 2, _, hd => exact hd
  | 3, _, hd => exact hd
  | 4, _, hd => exact hd
  | 5, _, hd => exact hd
  | 6, _, hd => exact hd
  | 7, _, hd => exact hd
  | 8, _, hd => exact hd
  | 9, _, hd => exact hd
  | 10, _, hd => exact hd
  | 11, _, hd => exact hd
  | 12, _, hd => exact hd
  | 13, _, hd => exact hd
  | 14, _, hd =>
    show c = ob 7 _
    rw [show c = ob 7 (moF Γ Tr) from hd]
    unfold moF
    rw [up_j Tr i 0 v (show 1 ≠ j by omega), up_j Tr i 0 v (show 2 ≠ j by omega), up_j Tr i 0 v (show 3 ≠ j by omega), up_j Tr i 0 v (show 5 ≠ j by omega), up_j Tr i 0 v (show 18 ≠ j by omega), up_j Tr i 0 v (show 20 ≠ j by omega)]
  | k + 15, hv, hd =>
    have hm : mlen i' ≠ 0 := by
      rcases hv with h | h | h | h | h
      · omega
      · omega
      · omega
      · omega
      · exact h.2
    have h24 : i' < 24 := by
      rcases Nat.lt_or_ge i' 24 with q | q
      · exact q
      · exact absurd (by unfold mlen; split <;> first | rfl | omega) hm
    show c = ia _ _
    rw [up_rowj Tr i v (show i' ≠ j by omega)]
    exact hd
