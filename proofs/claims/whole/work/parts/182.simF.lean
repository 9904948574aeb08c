/-! streams end -/
section ZSIMF
variable {A B : Nat} {X Y : zh_T} {M F I J G K : Nat → Nat → Int32} {w e : Nat → Nat} {R : Nat → Nat → Int32} {N n c jc pd : Nat} {s0 : Int32} {V : Nat → Nat → Bool}
/-- the stream of secondary 1 ends, on both sides -/
theorem Sim_cut1 (h : Sim s0 V n c jc pd M F I J G K w e R) (hN : 300 < N) : ∃ c' M' w' R', f_Wire_endStreamOf N (zC A X M F I J G K w e) (A + 6) (ni 1) = some ((), zC A X M' F I J G K w' e) ∧ f_ZoneNodesModel_cutOff N (zR B Y R) B (ni 1) = some ((), zR B Y R') ∧ rfr R R' ∧ (∀ k, k ≠ 6 → M' k = M k) ∧ (mlist F I w' c').filter (ofS 1) = [] ∧ (mlist F I w' c').filter (ofS 2) = (mlist F I w c).filter (ofS 2) ∧ Sim s0 V n c' jc pd M' F I J G K w' e R' := by
  have hM := sim_m h
  have hb := sim_b h
  obtain ⟨m1, m2, m3, m4, -⟩ := sim_m h
  obtain ⟨c1, w1, a1, a2, a3, a4⟩ := s_endStream (N := N) (A := A) (X := X) (F := F) (I := I) (J := J) (G := G) (K := K) (e := e) (ni 1) m2 m1 m4 (by omega)
  obtain ⟨c2, R2, b1, b2, b3, b4, b5⟩ := k_cutOff (N := N) (B := B) (Y := Y) (ni 1) m3 (by omega) hb.2.2.2.2.2.1 hb.2.2.2.2.2.2 (by omega)
  obtain ⟨e1, q⟩ := simM_cut (ni 1) hM a2 a3 a4 b3 b5
  subst e1
  have f1 : (mlist F I w1 c2).filter (ofS 1) = [] := by
    rw [a4, List.filter_filter]
    have : (fun m => ofS 1 m && !ofS (ni 1) m) = fun _ => false := by
      funext m
      show (ofS 1 m && !ofS 1 m) = false
      cases ofS 1 m <;> rfl
    rw [this]
    simp
  have f2 : (mlist F I w1 c2).filter (ofS 2) = (mlist F I w c).filter (ofS 2) := by
    rw [a4, List.filter_filter]
    congr 1
    funext m
    show (ofS 2 m && !ofS 1 m) = ofS 2 m
    unfold ofS
    cases onS m with
    | false => rfl
    | true =>
      by_cases z : m.1 2 = 2
      · rw [z]
        decide
      · simp [z]
  refine ⟨c2, _, w1, R2, a1, b1, b4, fun k hk => zu_ne _ hk, f1, f2, Sim_msgs h (fun k hk => zu_ne _ hk) b4 ?_ ?_ ?_⟩
  · rw [zu_same, b2]
    exact q
  · rw [f1]
    exact Or.inl rfl
  · rw [f2]
    exact sim_t2 h
/-- the stream of secondary 2 ends, on both sides -/
theorem Sim_cut2 (h : Sim s0 V n c jc pd M F I J G K w e R) (hN : 300 < N) : ∃ c' M' w' R', f_Wire_endStreamOf N (zC A X M F I J G K w e) (A + 6) (ni 2) = some ((), zC A X M' F I J G K w' e) ∧ f_ZoneNodesModel_cutOff N (zR B Y R) B (ni 2) = some ((), zR B Y R') ∧ rfr R R' ∧ (∀ k, k ≠ 6 → M' k = M k) ∧ (mlist F I w' c').filter (ofS 2) = [] ∧ (mlist F I w' c').filter (ofS 1) = (mlist F I w c).filter (ofS 1) ∧ Sim s0 V n c' jc pd M' F I J G K w' e R' := by
  have hM := sim_m h
  have hb := sim_b h
  obtain ⟨m1, m2, m3, m4, -⟩ := sim_m h
  obtain ⟨c1, w1, a1, a2, a3, a4⟩ := s_endStream (N := N) (A := A) (X := X) (F := F) (I := I) (J := J) (G := G) (K := K) (e := e) (ni 2) m2 m1 m4 (by omega)
  obtain ⟨c2, R2, b1, b2, b3, b4, b5⟩ := k_cutOff (N := N) (B := B) (Y := Y) (ni 2) m3 (by omega) hb.2.2.2.2.2.1 hb.2.2.2.2.2.2 (by omega)
  obtain ⟨e1, q⟩ := simM_cut (ni 2) hM a2 a3 a4 b3 b5
  subst e1
  have f1 : (mlist F I w1 c2).filter (ofS 2) = [] := by
    rw [a4, List.filter_filter]
    have : (fun m => ofS 2 m && !ofS (ni 2) m) = fun _ => false := by
      funext m
      show (ofS 2 m && !ofS 2 m) = false
      cases ofS 2 m <;> rfl
    rw [this]
    simp
  have f2 : (mlist F I w1 c2).filter (ofS 1) = (mlist F I w c).filter (ofS 1) := by
    rw [a4, List.filter_filter]
    congr 1
    funext m
    show (ofS 1 m && !ofS 2 m) = ofS 1 m
    unfold ofS
    cases onS m with
    | false => rfl
    | true =>
      by_cases z : m.1 2 = 1
      · rw [z]
        decide
      · simp [z]
  refine ⟨c2, _, w1, R2, a1, b1, b4, fun k hk => zu_ne _ hk, f1, f2, Sim_msgs h (fun k hk => zu_ne _ hk) b4 ?_ ?_ ?_⟩
  · rw [zu_same, b2]
    exact q
  · rw [f2]
    exact sim_t1 h
  · rw [f1]
    exact Or.inl rfl
end ZSIMF
