/-! a secondary asks -/
section ZSIMB
variable {A B : Nat} {X Y : zh_T} {M F I J G K : Nat → Nat → Int32} {w e : Nat → Nat} {R : Nat → Nat → Int32} {N n c jc pd : Nat} {s0 : Int32} {V : Nat → Nat → Bool}
/-- secondary 1 asks -/
theorem Sim_ask1 (h : Sim s0 V n c jc pd M F I J G K w e R) (hS : (mlist F I w c).filter (ofS 1) = []) (hN : 300 < N) : ∃ c' F' M' R', f_Secondary_ask N (zC A X M F I J G K w e) (A + 202) (R 0 3) (A + 6) = some ((), zC A X M' F' I J G K w e) ∧ f_ZoneNodesModel_ask N (zR B Y R) B (ni 1) = some ((), zR B Y R') ∧ R' 0 3 = R 0 3 ∧ (∀ x : Int32, (mlist F' I w c').filter (ofS x) = (mlist F I w c).filter (ofS x)) ∧ Sim s0 V n c' jc pd M' F' I J G K w e R' := by
  obtain ⟨c1, F1, M1, R1, a1, a2, a3, a4, a5, a6⟩ := Sim_send (N := N) (A := A) (X := X) (B := B) (Y := Y) (kd := 2) (s := 1) (sr := 0) h (Or.inr (Or.inl rfl)) (Or.inl rfl) hN
  have n0 : M 202 0 = 1 := (sim_1 h).1
  have r3 : R1 0 3 = R 0 3 := a3.2.1 3 (by decide)
  have a2' : f_ZoneNodesModel_send N (zR B Y R) B 2 (ni 1) 0 = some ((), zR B Y R1) := a2
  unfold f_Secondary_ask f_ZoneNodesModel_ask
  rw [cg202_0, zb1_some, ck6, zb1_some, n0, a1, zb2_some, cp202_9, zb1_some, cp202_11, zb1_some]
  rw [rck, zb1_some, a2', zb2_some, rr9, zb1_some, rs6 (i := 1) (by decide), zb1_some, rr10, zb1_some, rg3, zb1_some, rs7 (i := 1) (by decide), zb1_some]
  refine ⟨c1, F1, _, _, rfl, rfl, r3, a5, ?_⟩
  obtain ⟨hA, hD, hB, hP, hJ, hV, hS1, hS2, hM, hT1, hT2⟩ := a6
  obtain ⟨c0, c1', c2, c3, c4, c5, c6, c7, c8, c9, -, c11, c12, c13⟩ := hS1
  refine ⟨hA, hD, hB, hP, hJ, hV, ⟨c0, c1', c2, c3, c4, c5, c6, c7, c8, c9, fun _ => ⟨rfl, fun z => ?_, fun _ => ?_⟩, c11, c12, c13⟩, hS2, hM, Or.inl ?_, hT2⟩
  · exact absurd z (show ¬ (1 : Int32) = 0 by decide)
  · show R 0 3 = R1 0 3
    exact r3.symm
  · rw [a5, hS]
/-- secondary 2 asks -/
theorem Sim_ask2 (h : Sim s0 V n c jc pd M F I J G K w e R) (hS : (mlist F I w c).filter (ofS 2) = []) (hN : 300 < N) : ∃ c' F' M' R', f_Secondary_ask N (zC A X M F I J G K w e) (A + 207) (R 0 3) (A + 6) = some ((), zC A X M' F' I J G K w e) ∧ f_ZoneNodesModel_ask N (zR B Y R) B (ni 2) = some ((), zR B Y R') ∧ R' 0 3 = R 0 3 ∧ (∀ x : Int32, (mlist F' I w c').filter (ofS x) = (mlist F I w c).filter (ofS x)) ∧ Sim s0 V n c' jc pd M' F' I J G K w e R' := by
  obtain ⟨c1, F1, M1, R1, a1, a2, a3, a4, a5, a6⟩ := Sim_send (N := N) (A := A) (X := X) (B := B) (Y := Y) (kd := 2) (s := 2) (sr := 0) h (Or.inr (Or.inl rfl)) (Or.inr rfl) hN
  have n0 : M 207 0 = 2 := (sim_2 h).1
  have r3 : R1 0 3 = R 0 3 := a3.2.1 3 (by decide)
  have a2' : f_ZoneNodesModel_send N (zR B Y R) B 2 (ni 2) 0 = some ((), zR B Y R1) := a2
  unfold f_Secondary_ask f_ZoneNodesModel_ask
  rw [cg207_0, zb1_some, ck6, zb1_some, n0, a1, zb2_some, cp207_9, zb1_some, cp207_11, zb1_some]
  rw [rck, zb1_some, a2', zb2_some, rr9, zb1_some, rs6 (i := 2) (by decide), zb1_some, rr10, zb1_some, rg3, zb1_some, rs7 (i := 2) (by decide), zb1_some]
  refine ⟨c1, F1, _, _, rfl, rfl, r3, a5, ?_⟩
  obtain ⟨hA, hD, hB, hP, hJ, hV, hS1, hS2, hM, hT1, hT2⟩ := a6
  obtain ⟨c0, c1', c2, c3, c4, c5, c6, c7, c8, c9, -, c11, c12, c13⟩ := hS2
  refine ⟨hA, hD, hB, hP, hJ, hV, hS1, ⟨c0, c1', c2, c3, c4, c5, c6, c7, c8, c9, fun _ => ⟨rfl, fun z => ?_, fun _ => ?_⟩, c11, c12, c13⟩, hM, hT1, Or.inl ?_⟩
  · exact absurd z (show ¬ (1 : Int32) = 0 by decide)
  · show R 0 3 = R1 0 3
    exact r3.symm
  · rw [a5, hS]
end ZSIMB
