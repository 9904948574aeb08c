/-! tick -/
section ZSIME
variable {A B : Nat} {X Y : zh_T} {M F I J G K : Nat → Nat → Int32} {w e : Nat → Nat} {R : Nat → Nat → Int32} {N n c jc pd : Nat} {s0 : Int32} {V : Nat → Nat → Bool}
theorem ask_iff1 (h : Sim s0 V n c jc pd M F I J G K w e R) : askC (M 202) (R 0 3) ↔ askR R 1 := by
  obtain ⟨-, -, f2, -, f6, u01, -, -, -, -, ph, -⟩ := sim_1 h
  unfold askC askR
  rw [f6, f2]
  rcases u01 with q | q
  · rw [q]
    exact ⟨fun z => absurd rfl z.1, fun z => absurd rfl z.1⟩
  · obtain ⟨p9, p10, p11⟩ := ph q
    rw [p9]
    constructor
    · rintro ⟨z, y | y⟩
      · exact ⟨z, Or.inl ⟨y.1, by rw [← p11 y.1]; exact y.2⟩⟩
      · exact ⟨z, Or.inr ⟨y.1, by rw [← p10 y.1]; exact y.2⟩⟩
    · rintro ⟨z, y | y⟩
      · exact ⟨z, Or.inl ⟨y.1, by rw [p11 y.1]; exact y.2⟩⟩
      · exact ⟨z, Or.inr ⟨y.1, by rw [p10 y.1]; exact y.2⟩⟩
theorem Sim_tickS1 (h : Sim s0 V n c jc pd M F I J G K w e R) (hN : 300 < N) : ∃ c' F' M' R', f_Secondary_askIfTimeHasCome N (zC A X M F I J G K w e) (A + 202) (R 0 3) (A + 6) = some ((), zC A X M' F' I J G K w e) ∧ (∀ (f : Nat) (w1 w2 : Int32), L_ZoneNodesModel_tick_32 N B w1 w2 (f + 1) (zR B Y R) (ni 1) = L_ZoneNodesModel_tick_32 N B w1 w2 f (zR B Y R') (ni (1 + 1))) ∧ R' 0 3 = R 0 3 ∧ Sim s0 V n c' jc pd M' F' I J G K w e R' := by
  by_cases ha : askR R 1
  · have hc := (ask_iff1 h).mpr ha
    have hS : (mlist F I w c).filter (ofS 1) = [] := by
      rcases sim_t1 h with q | ⟨-, -, q, -⟩
      · exact q
      · obtain ⟨-, z | z⟩ := hc
        · rw [q] at z
          exact absurd z.1 (by decide)
        · rw [q] at z
          exact absurd z.1 (by decide)
    obtain ⟨c1, F1, M1, R1, a1, a2, a3, -, a5⟩ := Sim_ask1 (N := N) (A := A) (X := X) (B := B) (Y := Y) h hS hN
    refine ⟨c1, F1, M1, R1, ?_, fun f w1 w2 => ?_, a3, a5⟩
    · rw [s_askIf (Or.inl rfl), pif_pos hc, a1]
    · rw [k_tick_step (by decide), pif_pos ha, a2, zb2_some]
  · refine ⟨c, F, M, R, ?_, fun f w1 w2 => ?_, rfl, h⟩
    · rw [s_askIf (Or.inl rfl), pif_neg (fun q => ha ((ask_iff1 h).mp q))]
    · rw [k_tick_step (by decide), pif_neg ha]
theorem ask_iff2 (h : Sim s0 V n c jc pd M F I J G K w e R) : askC (M 207) (R 0 3) ↔ askR R 2 := by
  obtain ⟨-, -, f2, -, f6, u01, -, -, -, -, ph, -⟩ := sim_2 h
  unfold askC askR
  rw [f6, f2]
  rcases u01 with q | q
  · rw [q]
    exact ⟨fun z => absurd rfl z.1, fun z => absurd rfl z.1⟩
  · obtain ⟨p9, p10, p11⟩ := ph q
    rw [p9]
    constructor
    · rintro ⟨z, y | y⟩
      · exact ⟨z, Or.inl ⟨y.1, by rw [← p11 y.1]; exact y.2⟩⟩
      · exact ⟨z, Or.inr ⟨y.1, by rw [← p10 y.1]; exact y.2⟩⟩
    · rintro ⟨z, y | y⟩
      · exact ⟨z, Or.inl ⟨y.1, by rw [p11 y.1]; exact y.2⟩⟩
      · exact ⟨z, Or.inr ⟨y.1, by rw [p10 y.1]; exact y.2⟩⟩
theorem Sim_tickS2 (h : Sim s0 V n c jc pd M F I J G K w e R) (hN : 300 < N) : ∃ c' F' M' R', f_Secondary_askIfTimeHasCome N (zC A X M F I J G K w e) (A + 207) (R 0 3) (A + 6) = some ((), zC A X M' F' I J G K w e) ∧ (∀ (f : Nat) (w1 w2 : Int32), L_ZoneNodesModel_tick_32 N B w1 w2 (f + 1) (zR B Y R) (ni 2) = L_ZoneNodesModel_tick_32 N B w1 w2 f (zR B Y R') (ni (2 + 1))) ∧ R' 0 3 = R 0 3 ∧ Sim s0 V n c' jc pd M' F' I J G K w e R' := by
  by_cases ha : askR R 2
  · have hc := (ask_iff2 h).mpr ha
    have hS : (mlist F I w c).filter (ofS 2) = [] := by
      rcases sim_t2 h with q | ⟨-, -, q, -⟩
      · exact q
      · obtain ⟨-, z | z⟩ := hc
        · rw [q] at z
          exact absurd z.1 (by decide)
        · rw [q] at z
          exact absurd z.1 (by decide)
    obtain ⟨c1, F1, M1, R1, a1, a2, a3, -, a5⟩ := Sim_ask2 (N := N) (A := A) (X := X) (B := B) (Y := Y) h hS hN
    refine ⟨c1, F1, M1, R1, ?_, fun f w1 w2 => ?_, a3, a5⟩
    · rw [s_askIf (Or.inr rfl), pif_pos hc, a1]
    · rw [k_tick_step (by decide), pif_pos ha, a2, zb2_some]
  · refine ⟨c, F, M, R, ?_, fun f w1 w2 => ?_, rfl, h⟩
    · rw [s_askIf (Or.inr rfl), pif_neg (fun q => ha ((ask_iff2 h).mp q))]
    · rw [k_tick_step (by decide), pif_neg ha]
theorem Sim_tick_L (hN : 300 < N) {tt : Nat} (ht : tt ≤ 20) : ∀ (m i f g c : Nat) (M F : Nat → Nat → Int32) (R : Nat → Nat → Int32), Sim s0 V n c jc pd M F I J G K w e R → i + m = tt → m < f → m < g →
    ∃ c' F' M' R', L_ZoneNodes_tick_14 N A (ni tt) f (zC A X M F I J G K w e) (ni i) = some ((), zC A X M' F' I J G K w e) ∧ L_ZoneNodesModel_tick_15 N B (ni tt) g (zR B Y R) (ni i) = some ((), zR B Y R') ∧ Sim s0 V n c' jc pd M' F' I J G K w e R' := by
  intro m
  induction m with
  | zero =>
    intro i f g c M F R h h3 h4 h5
    obtain ⟨f1, rfl⟩ : ∃ q, f = q + 1 := ⟨f - 1, by omega⟩
    obtain ⟨g1, rfl⟩ : ∃ q, g = q + 1 := ⟨g - 1, by omega⟩
    refine ⟨c, F, M, R, ?_, ?_, h⟩
    · rw [L_ZoneNodes_tick_14, if_pos ((zle (i := i) (m := tt) (by omega) (by omega)).mpr (by omega))]
    · rw [L_ZoneNodesModel_tick_15, if_pos ((zle (i := i) (m := tt) (by omega) (by omega)).mpr (by omega))]
  | succ m ih =>
    intro i f g c M F R h h3 h4 h5
    obtain ⟨f1, rfl⟩ : ∃ q, f = q + 1 := ⟨f - 1, by omega⟩
    obtain ⟨g1, rfl⟩ : ∃ q, g = q + 1 := ⟨g - 1, by omega⟩
    obtain ⟨f3, hf3⟩ : ∃ q, N = q + 1 + 1 + 1 := ⟨N - 3, by omega⟩
    have hclk : M 0 6 = R 0 3 := h.1.1
    have h0 : Sim s0 V n c jc pd (zu M 0 (upd (M 0) 6 (R 0 3 + 1))) F I J G K w e (zu R 0 (upd (R 0) 3 (R 0 3 + 1))) := by
      obtain ⟨⟨-, hA⟩, hrest⟩ := h
      exact ⟨⟨rfl, hA⟩, hrest⟩
    obtain ⟨c1, F1, M1, R1, a1, a2, a3, a4⟩ := Sim_tickS1 (N := N) (A := A) (X := X) (B := B) (Y := Y) h0 hN
    obtain ⟨c2, F2, M2, R2, b1, b2, b3, b4⟩ := Sim_tickS2 (N := N) (A := A) (X := X) (B := B) (Y := Y) a4 hN
    obtain ⟨c3, F3, M3, R3, d1, d2, d3⟩ := ih (i + 1) f1 g1 c2 M2 F2 R2 b4 (by omega) (by omega) (by omega)
    have k1 : (zu M 0 (upd (M 0) 6 (R 0 3 + 1))) 0 6 = (zu R 0 (upd (R 0) 3 (R 0 3 + 1))) 0 3 := rfl
    have k2 : M1 0 6 = R1 0 3 := a4.1.1
    refine ⟨c3, F3, M3, R3, ?_, ?_, d3⟩
    · rw [L_ZoneNodes_tick_14, if_neg (fun q => absurd ((zle (i := i) (m := tt) (by omega) (by omega)).mp q) (by omega)), cg0_6, zb1_some, hclk, cp0_6, zb1_some]
      rw [show L_ZoneNodes_tick_31 N A (ni tt) (ni i) N = L_ZoneNodes_tick_31 N A (ni tt) (ni i) (f3 + 1 + 1 + 1) from by rw [← hf3]]
      rw [L_ZoneNodes_tick_31, if_neg (by decide), cr0_5, zb1_some, show (0 : Int32) = ni 0 from rfl, x_ar0, zb1_some, cg0_6, zb1_some, cr0_3, zb1_some, ck202, zb1_some, k1, a1, zb2_some]
      rw [L_ZoneNodes_tick_31, if_neg (by decide), cr0_5, zb1_some, show ni 0 + 1 = ni 1 from rfl, x_ar1, zb1_some, cg0_6, zb1_some, cr0_3, zb1_some, ck207, zb1_some, k2, b1, zb2_some]
      rw [L_ZoneNodes_tick_31, if_pos (by decide), zb2_some, ni_succ, d1]
    · rw [L_ZoneNodesModel_tick_15, if_neg (fun q => absurd ((zle (i := i) (m := tt) (by omega) (by omega)).mp q) (by omega)), rg3, zb1_some, rq3, zb1_some]
      rw [show L_ZoneNodesModel_tick_32 N B (ni tt) (ni i) N = L_ZoneNodesModel_tick_32 N B (ni tt) (ni i) (f3 + 1 + 1 + 1) from by rw [← hf3]]
      have a2' : ∀ (f : Nat) (w1 w2 : Int32), L_ZoneNodesModel_tick_32 N B w1 w2 (f + 1) (zR B Y (zu R 0 (upd (R 0) 3 (R 0 3 + 1)))) 1 = L_ZoneNodesModel_tick_32 N B w1 w2 f (zR B Y R1) (ni 2) := a2
      rw [a2', b2]
      rw [L_ZoneNodesModel_tick_32, if_pos (by decide), zb2_some, ni_succ, d2]
theorem o_tick (h : Sim s0 V n c jc pd M F I J G K w e R) (x : Int32) (hN : 300 < N) : ∃ r c' F' M' R', f_ZoneNodes_tick N (zC A X M F I J G K w e) A x = some (r, zC A X M' F' I J G K w e) ∧ f_ZoneNodesModel_tick N (zR B Y R) B x = some (r, zR B Y R') ∧ Sim s0 V n c' jc pd M' F' I J G K w e R' := by
  unfold f_ZoneNodes_tick f_ZoneNodesModel_tick
  rw [s_within, zb1_some]
  by_cases h1 : 1 ≤ x
  · by_cases h2 : x ≤ 20
    · obtain ⟨tt, -, t2, rfl⟩ := ni_range (lo := 1) (hi := 20) (by decide) (by decide) h1 h2
      obtain ⟨c1, F1, M1, R1, a1, a2, a3⟩ := Sim_tick_L (N := N) (A := A) (X := X) (B := B) (Y := Y) hN t2 tt 0 N N c M F R h (by omega) (by omega) (by omega)
      have a1' : L_ZoneNodes_tick_14 N A (ni tt) N (zC A X M F I J G K w e) 0 = some ((), zC A X M1 F1 I J G K w e) := a1
      have a2' : L_ZoneNodesModel_tick_15 N B (ni tt) N (zR B Y R) 0 = some ((), zR B Y R1) := a2
      rw [if_pos (show 1 ≤ ni tt ∧ ni tt ≤ 20 from ⟨h1, h2⟩), if_neg n10, if_neg (Int32.not_lt.mpr h1), if_pos h2, a1', zb2_some, a2', zb2_some]
      exact ⟨1, c1, F1, M1, R1, rfl, rfl, a3⟩
    · rw [if_neg (show ¬ (1 ≤ x ∧ x ≤ 20) from fun q => h2 q.2), if_pos rfl, if_neg (Int32.not_lt.mpr h1), if_neg h2]
      exact ⟨0, c, F, M, R, rfl, rfl, h⟩
  · rw [if_neg (show ¬ (1 ≤ x ∧ x ≤ 20) from fun q => h1 q.1), if_pos rfl, if_pos (Int32.not_le.mp h1)]
    exact ⟨0, c, F, M, R, rfl, rfl, h⟩
end ZSIME
