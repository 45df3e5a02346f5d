/-! the world right behind the making of the two objects -/
def T0 : TB := fun j => match j with
  | 0 => (upd (upd (upd (upd (upd (upd (fun _ => 0) 0 (nI 10000)) 1 (nI 10000)) 2 (nI 10000)) 3 (nI 10000)) 4 (nI 10000)) 5 (nI 10000))
  | _ => fun _ => 0
def G0 (a0 p1 p2 p3 p4 p5 p6 m0 b0 b4 b6 b7 b8 b9 b10 b11 b12 b13 b14 b15 b16 b17 b19 b21 b22 b23 : Nat) : NM := fun k i => match k with
  | 0 => a0
  | 1 => p1
  | 2 => p2
  | 3 => p3
  | 4 => p4
  | 5 => p5
  | 6 => p6
  | 14 => m0
  | 15 => (match i with
    | 0 => b0
    | 4 => b4
    | 6 => b6
    | 7 => b7
    | 8 => b8
    | 9 => b9
    | 10 => b10
    | 11 => b11
    | 12 => b12
    | 13 => b13
    | 14 => b14
    | 15 => b15
    | 16 => b16
    | 17 => b17
    | 19 => b19
    | 21 => b21
    | 22 => b22
    | 23 => b23
    | _ => 0)
  | _ => 0
theorem T0_j {j : Nat} (h : j ≠ 0) (i : Nat) : T0 j i = 0 := by
  match j, h with
  | 0, h => exact absurd rfl h
  | j + 1, _ => rfl
theorem mlen_in {i : Nat} (h : mlen i ≠ 0) : i = 0 ∨ i = 4 ∨ i = 6 ∨ i = 7 ∨ i = 8 ∨ i = 9 ∨ i = 10 ∨ i = 11 ∨ i = 12 ∨ i = 13 ∨ i = 14 ∨ i = 15 ∨ i = 16 ∨ i = 17 ∨ i = 19 ∨ i = 21 ∨ i = 22 ∨ i = 23 := by
  unfold mlen at h
  split at h <;> first | omega | exact absurd rfl h
theorem vld0 {k i : Nat} (h : vld T0 k i) : (k ≤ 6 ∧ i = 0) ∨ (k = 14 ∧ i = 0) ∨ (k = 15 ∧ mlen i ≠ 0) := by
  have e5 : ix (T0 5 0) = 0 := by rw [T0_j (by decide)]; decide
  have e18 : ix (T0 18 0) = 0 := by rw [T0_j (by decide)]; decide
  rcases h with h | ⟨h1, h2⟩ | ⟨h1, h2, h3⟩ | h | h
  · exact Or.inl h
  · rw [e5] at h2
    exact absurd h2 (Nat.not_lt_zero _)
  · rw [e18] at h3
    exact absurd h3 (Nat.not_lt_zero _)
  · exact Or.inr (Or.inl h)
  · exact Or.inr (Or.inr h)
theorem ow_ex (L : List ((Nat × Nat) × Nat)) (h : (L.map Prod.snd).Nodup) : ∃ ow : Nat → Nat × Nat, ∀ x, x ∈ L → ow x.2 = x.1 := by
  induction L with
  | nil => exact ⟨fun _ => (0, 0), fun x hx => by cases hx⟩
  | cons y L ih =>
    rw [List.map_cons, List.nodup_cons] at h
    obtain ⟨ow, ho⟩ := ih h.2
    refine ⟨fun q => if q = y.2 then y.1 else ow q, fun x hx => ?_⟩
    rcases List.mem_cons.mp hx with rfl | hx
    · exact if_pos rfl
    · show (if x.2 = y.2 then y.1 else ow x.2) = x.1
      rw [if_neg (fun e => h.1 (List.mem_map.mpr ⟨x, hx, e⟩))]
      exact ho x hx
theorem Iv_0 : Iv 0 T0 0 0 0 0 := by
  have z : ∀ j, j ≠ 0 → T0 j 0 = nI 0 := fun j h => by rw [T0_j h, nI_0]
  refine ⟨⟨z 5 (by decide), by decide, z 18 (by decide), by decide, z 3 (by decide), by decide, z 20 (by decide), by decide, ⟨0, by decide, z 1 (by decide)⟩, fun q hq => ⟨0, by decide, by rw [T0_j (by decide), nI_0]⟩, fun c hc => ⟨T0_j (by decide) c, T0_j (by decide) c⟩⟩, ⟨fun q hq => by omega, fun q r h1 h2 => by omega⟩, fun s hs => by omega, fun c hc => by omega⟩
set_option maxHeartbeats 4000000 in
set_option maxRecDepth 20000 in
theorem WD_start {h hA hB : Hp} {a0 m0 p1 p2 p3 p4 p5 p6 b0 b4 b6 b7 b8 b9 b10 b11 b12 b13 b14 b15 b16 b17 b19 b21 b22 b23 : Nat} (hn0 : h a0 = none) (hn1 : hA m0 = none) (I1 : IN (hup h a0 (ob 6 [.null, .null, .null, .null, .null, .int 0, .int 0, .int 0, .int 0, .int 0, .int 0])) hA a0 (ob 6 [.ref p1, .ref p3, .ref p4, .ref p5, .ref p6, .int 0, .int 0, .int 0, .int 0, .int 0, .int 0]) [(p6, ra 2 4 (fun _ => none)), (p5, ia 16 (fun _ => 0)), (p4, ra 4 64 (fun _ => none)), (p3, ra 1 8 (fun _ => none)), (p2, ia 6 (upd (upd (upd (upd (upd (upd (fun _ => 0) 0 (nI 10000)) 1 (nI 10000)) 2 (nI 10000)) 3 (nI 10000)) 4 (nI 10000)) 5 (nI 10000))), (p1, ob 5 [.ref p2])])
    (I2 : IN (hup hA m0 (ob 7 [.null, .int 0, .int 0, .int 0, .null, .int 0, .null, .null, .null, .null, .null, .null, .null, .null, .null, .null, .null, .null, .int 0, .null, .int 0, .null, .null, .null])) hB m0 (ob 7 [.ref b0, .int 0, .int 0, .int 0, .ref b4, .int 0, .ref b6, .ref b7, .ref b8, .ref b9, .ref b10, .ref b11, .ref b12, .ref b13, .ref b14, .ref b15, .ref b16, .ref b17, .int 0, .ref b19, .int 0, .ref b21, .ref b22, .ref b23]) [(b23, ia 4 (fun _ => 0)), (b22, ia 4 (fun _ => 0)), (b21, ia 4 (fun _ => 0)), (b19, ia 2240 (fun _ => 0)), (b17, ia 8 (fun _ => 0)), (b16, ia 8 (fun _ => 0)), (b15, ia 8 (fun _ => 0)), (b14, ia 8 (fun _ => 0)), (b13, ia 8 (fun _ => 0)), (b12, ia 8 (fun _ => 0)), (b11, ia 8 (fun _ => 0)), (b10, ia 8 (fun _ => 0)), (b9, ia 8 (fun _ => 0)), (b8, ia 8 (fun _ => 0)), (b7, ia 8 (fun _ => 0)), (b6, ia 8 (fun _ => 0)), (b4, ia 16 (fun _ => 0)), (b0, ia 6 (upd (upd (upd (upd (upd (upd (fun _ => 0) 0 (nI 10000)) 1 (nI 10000)) 2 (nI 10000)) 3 (nI 10000)) 4 (nI 10000)) 5 (nI 10000)))]) : ∃ ow, WD (G0 a0 p1 p2 p3 p4 p5 p6 m0 b0 b4 b6 b7 b8 b9 b10 b11 b12 b13 b14 b15 b16 b17 b19 b21 b22 b23) ow hB T0 T0 0 := by
  -- what lies in hA lies in hB
  have keep : ∀ q c, hA q = some c → hB q = some c := fun q c hq => by
    have hne : q ≠ m0 := fun e => by rw [e, hn1] at hq; cases hq
    rw [I2.old q (by rw [hup_n _ _ hne, hq]; exact fun x => by cases x) hne, hup_n _ _ hne]
    exact hq
  -- the model's are new
  have fresh : ∀ x, x ∈ ([(b23, ia 4 (fun _ => 0)), (b22, ia 4 (fun _ => 0)), (b21, ia 4 (fun _ => 0)), (b19, ia 2240 (fun _ => 0)), (b17, ia 8 (fun _ => 0)), (b16, ia 8 (fun _ => 0)), (b15, ia 8 (fun _ => 0)), (b14, ia 8 (fun _ => 0)), (b13, ia 8 (fun _ => 0)), (b12, ia 8 (fun _ => 0)), (b11, ia 8 (fun _ => 0)), (b10, ia 8 (fun _ => 0)), (b9, ia 8 (fun _ => 0)), (b8, ia 8 (fun _ => 0)), (b7, ia 8 (fun _ => 0)), (b6, ia 8 (fun _ => 0)), (b4, ia 16 (fun _ => 0)), (b0, ia 6 (upd (upd (upd (upd (upd (upd (fun _ => 0) 0 (nI 10000)) 1 (nI 10000)) 2 (nI 10000)) 3 (nI 10000)) 4 (nI 10000)) 5 (nI 10000)))] : List (Nat × AC)) → hA x.1 = none := fun x hx => by
    obtain ⟨g1, g2, g3⟩ := I2.new x hx
    rw [hup_n _ _ g3] at g1
    exact g1
  have fp1 : hA p1 = some (ob 5 [.ref p2]) := (I1.new (p1, ob 5 [.ref p2]) (by simp only [List.mem_cons, true_or, or_true])).2.1
  have fp2 : hA p2 = some (ia 6 (upd (upd (upd (upd (upd (upd (fun _ => 0) 0 (nI 10000)) 1 (nI 10000)) 2 (nI 10000)) 3 (nI 10000)) 4 (nI 10000)) 5 (nI 10000))) := (I1.new (p2, ia 6 (upd (upd (upd (upd (upd (upd (fun _ => 0) 0 (nI 10000)) 1 (nI 10000)) 2 (nI 10000)) 3 (nI 10000)) 4 (nI 10000)) 5 (nI 10000))) (by simp only [List.mem_cons, true_or, or_true])).2.1
  have fp3 : hA p3 = some (ra 1 8 (fun _ => none)) := (I1.new (p3, ra 1 8 (fun _ => none)) (by simp only [List.mem_cons, true_or, or_true])).2.1
  have fp4 : hA p4 = some (ra 4 64 (fun _ => none)) := (I1.new (p4, ra 4 64 (fun _ => none)) (by simp only [List.mem_cons, true_or, or_true])).2.1
  have fp5 : hA p5 = some (ia 16 (fun _ => 0)) := (I1.new (p5, ia 16 (fun _ => 0)) (by simp only [List.mem_cons, true_or, or_true])).2.1
  have fp6 : hA p6 = some (ra 2 4 (fun _ => none)) := (I1.new (p6, ra 2 4 (fun _ => none)) (by simp only [List.mem_cons, true_or, or_true])).2.1
  have fa0 := I1.self
  have fm0 := I2.self
  have fb0 : hB b0 = some (ia 6 (upd (upd (upd (upd (upd (upd (fun _ => 0) 0 (nI 10000)) 1 (nI 10000)) 2 (nI 10000)) 3 (nI 10000)) 4 (nI 10000)) 5 (nI 10000))) := (I2.new (b0, ia 6 (upd (upd (upd (upd (upd (upd (fun _ => 0) 0 (nI 10000)) 1 (nI 10000)) 2 (nI 10000)) 3 (nI 10000)) 4 (nI 10000)) 5 (nI 10000))) (by simp only [List.mem_cons, true_or, or_true])).2.1
  have fb4 : hB b4 = some (ia 16 (fun _ => 0)) := (I2.new (b4, ia 16 (fun _ => 0)) (by simp only [List.mem_cons, true_or, or_true])).2.1
  have fb6 : hB b6 = some (ia 8 (fun _ => 0)) := (I2.new (b6, ia 8 (fun _ => 0)) (by simp only [List.mem_cons, true_or, or_true])).2.1
  have fb7 : hB b7 = some (ia 8 (fun _ => 0)) := (I2.new (b7, ia 8 (fun _ => 0)) (by simp only [List.mem_cons, true_or, or_true])).2.1
  have fb8 : hB b8 = some (ia 8 (fun _ => 0)) := (I2.new (b8, ia 8 (fun _ => 0)) (by simp only [List.mem_cons, true_or, or_true])).2.1
  have fb9 : hB b9 = some (ia 8 (fun _ => 0)) := (I2.new (b9, ia 8 (fun _ => 0)) (by simp only [List.mem_cons, true_or, or_true])).2.1
  have fb10 : hB b10 = some (ia 8 (fun _ => 0)) := (I2.new (b10, ia 8 (fun _ => 0)) (by simp only [List.mem_cons, true_or, or_true])).2.1
  have fb11 : hB b11 = some (ia 8 (fun _ => 0)) := (I2.new (b11, ia 8 (fun _ => 0)) (by simp only [List.mem_cons, true_or, or_true])).2.1
  have fb12 : hB b12 = some (ia 8 (fun _ => 0)) := (I2.new (b12, ia 8 (fun _ => 0)) (by simp only [List.mem_cons, true_or, or_true])).2.1
  have fb13 : hB b13 = some (ia 8 (fun _ => 0)) := (I2.new (b13, ia 8 (fun _ => 0)) (by simp only [List.mem_cons, true_or, or_true])).2.1
  have fb14 : hB b14 = some (ia 8 (fun _ => 0)) := (I2.new (b14, ia 8 (fun _ => 0)) (by simp only [List.mem_cons, true_or, or_true])).2.1
  have fb15 : hB b15 = some (ia 8 (fun _ => 0)) := (I2.new (b15, ia 8 (fun _ => 0)) (by simp only [List.mem_cons, true_or, or_true])).2.1
  have fb16 : hB b16 = some (ia 8 (fun _ => 0)) := (I2.new (b16, ia 8 (fun _ => 0)) (by simp only [List.mem_cons, true_or, or_true])).2.1
  have fb17 : hB b17 = some (ia 8 (fun _ => 0)) := (I2.new (b17, ia 8 (fun _ => 0)) (by simp only [List.mem_cons, true_or, or_true])).2.1
  have fb19 : hB b19 = some (ia 2240 (fun _ => 0)) := (I2.new (b19, ia 2240 (fun _ => 0)) (by simp only [List.mem_cons, true_or, or_true])).2.1
  have fb21 : hB b21 = some (ia 4 (fun _ => 0)) := (I2.new (b21, ia 4 (fun _ => 0)) (by simp only [List.mem_cons, true_or, or_true])).2.1
  have fb22 : hB b22 = some (ia 4 (fun _ => 0)) := (I2.new (b22, ia 4 (fun _ => 0)) (by simp only [List.mem_cons, true_or, or_true])).2.1
  have fb23 : hB b23 = some (ia 4 (fun _ => 0)) := (I2.new (b23, ia 4 (fun _ => 0)) (by simp only [List.mem_cons, true_or, or_true])).2.1
  have nA : ([a0, p6, p5, p4, p3, p2, p1] : List Nat).Nodup := by
    rw [List.nodup_cons]
    refine ⟨fun hm => ?_, I1.nod⟩
    obtain ⟨x, hx, e⟩ := List.mem_map.mp (show a0 ∈ List.map Prod.fst ([(p6, ra 2 4 (fun _ => none)), (p5, ia 16 (fun _ => 0)), (p4, ra 4 64 (fun _ => none)), (p3, ra 1 8 (fun _ => none)), (p2, ia 6 (upd (upd (upd (upd (upd (upd (fun _ => 0) 0 (nI 10000)) 1 (nI 10000)) 2 (nI 10000)) 3 (nI 10000)) 4 (nI 10000)) 5 (nI 10000))), (p1, ob 5 [.ref p2])] : List (Nat × AC)) from hm)
    exact (I1.new x hx).2.2 e
  have nB : ([m0, b23, b22, b21, b19, b17, b16, b15, b14, b13, b12, b11, b10, b9, b8, b7, b6, b4, b0] : List Nat).Nodup := by
    rw [List.nodup_cons]
    refine ⟨fun hm => ?_, I2.nod⟩
    obtain ⟨x, hx, e⟩ := List.mem_map.mp (show m0 ∈ List.map Prod.fst ([(b23, ia 4 (fun _ => 0)), (b22, ia 4 (fun _ => 0)), (b21, ia 4 (fun _ => 0)), (b19, ia 2240 (fun _ => 0)), (b17, ia 8 (fun _ => 0)), (b16, ia 8 (fun _ => 0)), (b15, ia 8 (fun _ => 0)), (b14, ia 8 (fun _ => 0)), (b13, ia 8 (fun _ => 0)), (b12, ia 8 (fun _ => 0)), (b11, ia 8 (fun _ => 0)), (b10, ia 8 (fun _ => 0)), (b9, ia 8 (fun _ => 0)), (b8, ia 8 (fun _ => 0)), (b7, ia 8 (fun _ => 0)), (b6, ia 8 (fun _ => 0)), (b4, ia 16 (fun _ => 0)), (b0, ia 6 (upd (upd (upd (upd (upd (upd (fun _ => 0) 0 (nI 10000)) 1 (nI 10000)) 2 (nI 10000)) 3 (nI 10000)) 4 (nI 10000)) 5 (nI 10000)))] : List (Nat × AC)) from hm)
    exact (I2.new x hx).2.2 e
  have sA : ∀ q, q ∈ ([a0, p6, p5, p4, p3, p2, p1] : List Nat) → hA q ≠ none := by
    intro q hq
    simp only [List.mem_cons, List.not_mem_nil, or_false] at hq
    rcases hq with rfl | rfl | rfl | rfl | rfl | rfl | rfl <;> simp only [fa0, fp1, fp2, fp3, fp4, fp5, fp6, ne_eq, reduceCtorEq, not_false_eq_true]
  have sB : ∀ q, q ∈ ([m0, b23, b22, b21, b19, b17, b16, b15, b14, b13, b12, b11, b10, b9, b8, b7, b6, b4, b0] : List Nat) → hA q = none := by
    intro q hq
    rcases List.mem_cons.mp hq with rfl | hq
    · exact hn1
    · obtain ⟨x, hx, rfl⟩ := List.mem_map.mp (show q ∈ List.map Prod.fst ([(b23, ia 4 (fun _ => 0)), (b22, ia 4 (fun _ => 0)), (b21, ia 4 (fun _ => 0)), (b19, ia 2240 (fun _ => 0)), (b17, ia 8 (fun _ => 0)), (b16, ia 8 (fun _ => 0)), (b15, ia 8 (fun _ => 0)), (b14, ia 8 (fun _ => 0)), (b13, ia 8 (fun _ => 0)), (b12, ia 8 (fun _ => 0)), (b11, ia 8 (fun _ => 0)), (b10, ia 8 (fun _ => 0)), (b9, ia 8 (fun _ => 0)), (b8, ia 8 (fun _ => 0)), (b7, ia 8 (fun _ => 0)), (b6, ia 8 (fun _ => 0)), (b4, ia 16 (fun _ => 0)), (b0, ia 6 (upd (upd (upd (upd (upd (upd (fun _ => 0) 0 (nI 10000)) 1 (nI 10000)) 2 (nI 10000)) 3 (nI 10000)) 4 (nI 10000)) 5 (nI 10000)))] : List (Nat × AC)) from hq)
      exact fresh x hx
  have nd : ([a0, p6, p5, p4, p3, p2, p1] ++ [m0, b23, b22, b21, b19, b17, b16, b15, b14, b13, b12, b11, b10, b9, b8, b7, b6, b4, b0] : List Nat).Nodup :=
    List.nodup_append.mpr ⟨nA, nB, fun a ha b hb e => sA a ha (by rw [e]; exact sB b hb)⟩
  obtain ⟨ow, ho⟩ := ow_ex [((0, 0), a0), ((6, 0), p6), ((5, 0), p5), ((4, 0), p4), ((3, 0), p3), ((2, 0), p2), ((1, 0), p1), ((14, 0), m0), ((15, 23), b23), ((15, 22), b22), ((15, 21), b21), ((15, 19), b19), ((15, 17), b17), ((15, 16), b16), ((15, 15), b15), ((15, 14), b14), ((15, 13), b13), ((15, 12), b12), ((15, 11), b11), ((15, 10), b10), ((15, 9), b9), ((15, 8), b8), ((15, 7), b7), ((15, 6), b6), ((15, 4), b4), ((15, 0), b0)] nd
  refine ⟨ow, fun k i hv => ?_, fun k i hv => ?_⟩
  · rcases vld0 hv with ⟨hk, rfl⟩ | ⟨rfl, rfl⟩ | ⟨rfl, hi⟩
    · rcases (show k = 0 ∨ k = 1 ∨ k = 2 ∨ k = 3 ∨ k = 4 ∨ k = 5 ∨ k = 6 by omega) with rfl | rfl | rfl | rfl | rfl | rfl | rfl
      · exact ho ((0, 0), a0) (by simp only [List.mem_cons, true_or, or_true])
      · exact ho ((1, 0), p1) (by simp only [List.mem_cons, true_or, or_true])
      · exact ho ((2, 0), p2) (by simp only [List.mem_cons, true_or, or_true])
      · exact ho ((3, 0), p3) (by simp only [List.mem_cons, true_or, or_true])
      · exact ho ((4, 0), p4) (by simp only [List.mem_cons, true_or, or_true])
      · exact ho ((5, 0), p5) (by simp only [List.mem_cons, true_or, or_true])
      · exact ho ((6, 0), p6) (by simp only [List.mem_cons, true_or, or_true])
    · exact ho ((14, 0), m0) (by simp only [List.mem_cons, true_or, or_true])
    · rcases mlen_in hi with rfl | rfl | rfl | rfl | rfl | rfl | rfl | rfl | rfl | rfl | rfl | rfl | rfl | rfl | rfl | rfl | rfl | rfl
      · exact ho ((15, 0), b0) (by simp only [List.mem_cons, true_or, or_true])
      · exact ho ((15, 4), b4) (by simp only [List.mem_cons, true_or, or_true])
      · exact ho ((15, 6), b6) (by simp only [List.mem_cons, true_or, or_true])
      · exact ho ((15, 7), b7) (by simp only [List.mem_cons, true_or, or_true])
      · exact ho ((15, 8), b8) (by simp only [List.mem_cons, true_or, or_true])
      · exact ho ((15, 9), b9) (by simp only [List.mem_cons, true_or, or_true])
      · exact ho ((15, 10), b10) (by simp only [List.mem_cons, true_or, or_true])
      · exact ho ((15, 11), b11) (by simp only [List.mem_cons, true_or, or_true])
      · exact ho ((15, 12), b12) (by simp only [List.mem_cons, true_or, or_true])
      · exact ho ((15, 13), b13) (by simp only [List.mem_cons, true_or, or_true])
      · exact ho ((15, 14), b14) (by simp only [List.mem_cons, true_or, or_true])
      · exact ho ((15, 15), b15) (by simp only [List.mem_cons, true_or, or_true])
      · exact ho ((15, 16), b16) (by simp only [List.mem_cons, true_or, or_true])
      · exact ho ((15, 17), b17) (by simp only [List.mem_cons, true_or, or_true])
      · exact ho ((15, 19), b19) (by simp only [List.mem_cons, true_or, or_true])
      · exact ho ((15, 21), b21) (by simp only [List.mem_cons, true_or, or_true])
      · exact ho ((15, 22), b22) (by simp only [List.mem_cons, true_or, or_true])
      · exact ho ((15, 23), b23) (by simp only [List.mem_cons, true_or, or_true])
  · rcases vld0 hv with ⟨hk, rfl⟩ | ⟨rfl, rfl⟩ | ⟨rfl, hi⟩
    · rcases (show k = 0 ∨ k = 1 ∨ k = 2 ∨ k = 3 ∨ k = 4 ∨ k = 5 ∨ k = 6 by omega) with rfl | rfl | rfl | rfl | rfl | rfl | rfl
      · exact ⟨_, keep _ _ fa0, rfl⟩
      · exact ⟨_, keep _ _ fp1, rfl⟩
      · exact ⟨_, keep _ _ fp2, rfl⟩
      · refine ⟨_, keep _ _ fp3, ?_⟩
        show ra 1 8 _ = ra 1 8 _
        congr 1
      · refine ⟨_, keep _ _ fp4, ?_⟩
        show ra 4 64 _ = ra 4 64 _
        congr 1
      · exact ⟨_, keep _ _ fp5, rfl⟩
      · exact ⟨_, keep _ _ fp6, _, rfl, fun q hq => absurd hq (Nat.not_lt_zero q)⟩
    · exact ⟨_, fm0, rfl⟩
    · rcases mlen_in hi with rfl | rfl | rfl | rfl | rfl | rfl | rfl | rfl | rfl | rfl | rfl | rfl | rfl | rfl | rfl | rfl | rfl | rfl
      · exact ⟨_, fb0, rfl⟩
      · exact ⟨_, fb4, rfl⟩
      · exact ⟨_, fb6, rfl⟩
      · exact ⟨_, fb7, rfl⟩
      · exact ⟨_, fb8, rfl⟩
      · exact ⟨_, fb9, rfl⟩
      · exact ⟨_, fb10, rfl⟩
      · exact ⟨_, fb11, rfl⟩
      · exact ⟨_, fb12, rfl⟩
      · exact ⟨_, fb13, rfl⟩
      · exact ⟨_, fb14, rfl⟩
      · exact ⟨_, fb15, rfl⟩
      · exact ⟨_, fb16, rfl⟩
      · exact ⟨_, fb17, rfl⟩
      · exact ⟨_, fb19, rfl⟩
      · exact ⟨_, fb21, rfl⟩
      · exact ⟨_, fb22, rfl⟩
      · exact ⟨_, fb23, rfl⟩
