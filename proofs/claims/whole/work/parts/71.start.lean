/-! an object being built: what its making has put into the heap -/
def IN (h hk : Hp) (a0 : Nat) (ob0 : AC) (L : List (Nat × AC)) : Prop := hk a0 = some ob0 ∧ (∀ q, h q ≠ none → q ≠ a0 → hk q = h q) ∧ (∀ x, x ∈ L → h x.1 = none ∧ hk x.1 = some x.2 ∧ x.1 ≠ a0) ∧ (L.map Prod.fst).Nodup
theorem IN.self {h hk : Hp} {a0 : Nat} {ob0 : AC} {L : List (Nat × AC)} (H : IN h hk a0 ob0 L) : hk a0 = some ob0 := H.1
theorem IN.old {h hk : Hp} {a0 : Nat} {ob0 : AC} {L : List (Nat × AC)} (H : IN h hk a0 ob0 L) : ∀ q, h q ≠ none → q ≠ a0 → hk q = h q := H.2.1
theorem IN.new {h hk : Hp} {a0 : Nat} {ob0 : AC} {L : List (Nat × AC)} (H : IN h hk a0 ob0 L) : ∀ x, x ∈ L → h x.1 = none ∧ hk x.1 = some x.2 ∧ x.1 ≠ a0 := H.2.2.1
theorem IN.nod {h hk : Hp} {a0 : Nat} {ob0 : AC} {L : List (Nat × AC)} (H : IN h hk a0 ob0 L) : (L.map Prod.fst).Nodup := H.2.2.2
theorem IN.made {h hk : Hp} {a0 : Nat} {ob0 : AC} {L : List (Nat × AC)} (H : IN h hk a0 ob0 L) {b : Nat} (hb : hk b = none) (c : AC) : IN h (hup hk b c) a0 ob0 ((b, c) :: L) := by
  have hba : b ≠ a0 := fun e => by rw [e, H.self] at hb; cases hb
  have hbn : h b = none := by
    cases e : h b with
    | none => rfl
    | some x => have := H.old b (by rw [e]; exact fun q => by cases q) hba; rw [hb, e] at this; cases this
  have hbl : ∀ x, x ∈ L → x.1 ≠ b := fun x hx e => by
    have := (H.new x hx).2.1
    rw [e, hb] at this
    cases this
  refine ⟨by rw [hup_n _ _ (Ne.symm hba)]; exact H.self, fun q hq h0 => ?_, fun x hx => ?_, ?_⟩
  · rw [hup_n _ _ (fun e => hq (by rw [e]; exact hbn))]
    exact H.old q hq h0
  · rcases List.mem_cons.mp hx with rfl | hx
    · exact ⟨hbn, hup_s _ _ _, hba⟩
    · obtain ⟨h1, h2, h3⟩ := H.new x hx
      exact ⟨h1, by rw [hup_n _ _ (hbl x hx)]; exact h2, h3⟩
  · rw [List.map_cons, List.nodup_cons]
    refine ⟨fun hm => ?_, H.nod⟩
    obtain ⟨x, hx, e⟩ := List.mem_map.mp hm
    exact hbl x hx e
theorem IN.put {h hk : Hp} {a0 : Nat} {ob0 : AC} {L : List (Nat × AC)} (H : IN h hk a0 ob0 L) (ob1 : AC) : IN h (hup hk a0 ob1) a0 ob1 L :=
  ⟨hup_s _ _ _, fun q hq h0 => by rw [hup_n _ _ h0]; exact H.old q hq h0, fun x hx => by
    obtain ⟨h1, h2, h3⟩ := H.new x hx
    exact ⟨h1, by rw [hup_n _ _ h3]; exact h2, h3⟩, H.nod⟩
theorem IN.start {h : Hp} {a0 : Nat} {ob0 : AC} (ha : h a0 = some ob0) : IN h h a0 ob0 [] :=
  ⟨ha, fun _ _ _ => rfl, fun _ hx => (by cases hx), List.nodup_nil⟩
/-- one of the new cells is written -/
theorem IN.wr {h hk : Hp} {a0 : Nat} {ob0 : AC} {L M : List (Nat × AC)} {b : Nat} {c : AC} (H : IN h hk a0 ob0 (L ++ (b, c) :: M)) (d : AC) : IN h (hup hk b d) a0 ob0 (L ++ (b, d) :: M) := by
  obtain ⟨g1, g2, g3⟩ := H.new (b, c) (List.mem_append_right _ (List.mem_cons_self ..))
  have hn := H.nod
  rw [List.map_append, List.map_cons] at hn
  have hb := List.nodup_append.mp hn
  have hb2 := List.nodup_cons.mp hb.2.1
  have ne : ∀ x, x ∈ L ∨ x ∈ M → x.1 ≠ b := fun x hx e => by
    rcases hx with hx | hx
    · exact hb.2.2 x.1 (List.mem_map_of_mem hx) b (List.mem_cons_self ..) e
    · exact hb2.1 (show b ∈ List.map Prod.fst M from e ▸ List.mem_map_of_mem (f := Prod.fst) hx)
  refine ⟨by rw [hup_n _ _ (Ne.symm g3)]; exact H.self, fun q hq h0 => ?_, fun x hx => ?_, ?_⟩
  · rw [hup_n _ _ (fun e => hq (by rw [e]; exact g1))]
    exact H.old q hq h0
  · rcases List.mem_append.mp hx with hx | hx
    · obtain ⟨h1, h2, h3⟩ := H.new x (List.mem_append_left _ hx)
      exact ⟨h1, by rw [hup_n _ _ (ne x (Or.inl hx))]; exact h2, h3⟩
    · rcases List.mem_cons.mp hx with rfl | hx
      · exact ⟨g1, hup_s _ _ _, g3⟩
      · obtain ⟨h1, h2, h3⟩ := H.new x (List.mem_append_right _ (List.mem_cons_of_mem _ hx))
        exact ⟨h1, by rw [hup_n _ _ (ne x (Or.inr hx))]; exact h2, h3⟩
  · rw [List.map_append, List.map_cons]
    exact hn
