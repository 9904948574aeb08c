/-! crash -/
section ZSIMH
variable {A B : Nat} {X Y : zh_T} {M F I J G K : Nat → Nat → Int32} {w e : Nat → Nat} {R : Nat → Nat → Int32} {N n c jc pd : Nat} {s0 : Int32} {V : Nat → Nat → Bool}
/-- the primary goes down: h tells of the rows behind its first two writes -/
theorem Sim_down (h : SimX s0 V n c jc pd (zu (zu M 169 (upd (M 169) 8 0)) 169 (upd ((zu M 169 (upd (M 169) 8 0)) 169) 7 0)) F I J G K w e (zu (zu R 1 (upd (R 1) 0 0)) 0 (upd ((zu R 1 (upd (R 1) 0 0)) 0) 17 0))) (hu : R 1 0 = 1) (hN : 300 < N) :
    ∃ c' M' w' R', f_ZoneNodes_takePrimaryDown N (zC A X M F I J G K w e) A = some ((), zC A X M' F I J G K w' e) ∧ f_ZoneNodesModel_crash N (zR B Y R) B (ni 0) = some (1, zR B Y R') ∧ Sim s0 V n c' jc pd M' F I J G K w' e R' := by
  obtain ⟨f, hf⟩ : ∃ f, N = f + 1 + 1 + 1 := ⟨N - 3, by omega⟩
  obtain ⟨c1, M1, w1, R1, a1, a2, a3, a4, a5, a6, a7⟩ := SimX_cut (N := N) (A := A) (X := X) (B := B) (Y := Y) h (ni 1) hN
  have k1 : M1 0 6 = R1 0 3 := a7.1.1
  obtain ⟨M2, R2, b1, b2, b3, b4⟩ := SimX_lose1 (N := N) (A := A) (X := X) (B := B) (Y := Y) a7
  obtain ⟨c3, M3, w3, R3, d1, d2, d3, d4, d5, d6, d7⟩ := SimX_cut (N := N) (A := A) (X := X) (B := B) (Y := Y) b4 (ni 2) hN
  have k3 : M3 0 6 = R3 0 3 := d7.1.1
  obtain ⟨M4, R4, e1, e2, e3, e4⟩ := SimX_lose2 (N := N) (A := A) (X := X) (B := B) (Y := Y) d7
  have t1 : (mlist F I w3 c3).filter (ofS 1) = [] := by
    rw [d6 1 (by decide)]
    exact a5
  refine ⟨c3, M4, w3, R4, ?_, ?_, SimX_to e4 (Or.inl t1) (Or.inl d5)⟩
  · unfold f_ZoneNodes_takePrimaryDown
    rw [cr0_4, zb1_some, cz169_8 (Or.inl rfl), zb1_some, cr0_4, zb1_some, cp169_7, zb1_some]
    rw [show L_ZoneNodes_takePrimaryDown_18 N A N = L_ZoneNodes_takePrimaryDown_18 N A (f + 1 + 1 + 1) from by rw [← hf]]
    rw [L_ZoneNodes_takePrimaryDown_18, if_neg (by decide), cr0_3, zb1_some, ck6, zb1_some, show (0 : Int32) + 1 = ni 1 from rfl, a1, zb2_some, cr0_5, zb1_some, show (0 : Int32) = ni 0 from rfl, x_ar0, zb1_some, cg0_6, zb1_some, ck202, zb1_some, k1, b1, zb2_some]
    rw [L_ZoneNodes_takePrimaryDown_18, if_neg (by decide), cr0_3, zb1_some, ck6, zb1_some, show ni 1 + 1 = ni 2 from rfl, d1, zb2_some, cr0_5, zb1_some, x_ar1, zb1_some, cg0_6, zb1_some, ck207, zb1_some, k3, e1, zb2_some]
    rw [L_ZoneNodes_takePrimaryDown_18, if_pos (by decide), zb2_some]
  · unfold f_ZoneNodesModel_crash
    rw [k_isNode, zb1_some, if_pos (show (0 : Int32) ≤ ni 0 ∧ ni 0 ≤ 2 by decide), if_neg n10, rr4, zb1_some, ra1 (i := 0) (by decide), zb1_some, hu, if_neg n10, zb1_some, rs1 (i := 0) (by decide) (Or.inl rfl), zb1_some, if_pos z00, rq17, zb1_some, z00]
    rw [show L_ZoneNodesModel_crash_43 N B 0 N = L_ZoneNodesModel_crash_43 N B 0 (f + 1 + 1 + 1) from by rw [← hf]]
    rw [L_ZoneNodesModel_crash_43, if_neg (by decide), if_pos rfl, rck, zb1_some, show (1 : Int32) = ni 1 from rfl, a2, zb2_some, if_pos rfl, rr4, zb1_some, b2 fun Z => L_ZoneNodesModel_crash_43 N B 0 (f + 1 + 1) Z (ni 1 + ni 1)]
    rw [L_ZoneNodesModel_crash_43, if_neg (by decide), if_pos rfl, rck, zb1_some, show ni 1 + ni 1 = ni 2 from rfl, d2, zb2_some, if_pos rfl, rr4, zb1_some, show (1 : Int32) = ni 1 from rfl, e2 fun Z => L_ZoneNodesModel_crash_43 N B 0 (f + 1) Z (ni 2 + ni 1)]
    rw [L_ZoneNodesModel_crash_43, if_pos (by decide), zb2_some]
/-- secondary 1 goes down -/
theorem Sim_downS1 (h : Sim s0 V n c jc pd M F I J G K w e R) (hu : R 1 1 = 1) (hN : 300 < N) :
    ∃ c' M' w' R', f_ZoneNodes_crash N (zC A X M F I J G K w e) A (ni 1) = some (1, zC A X M' F I J G K w' e) ∧ f_ZoneNodesModel_crash N (zR B Y R) B (ni 1) = some (1, zR B Y R') ∧ Sim s0 V n c' jc pd M' F I J G K w' e R' := by
  obtain ⟨f, hf⟩ : ∃ f, N = f + 1 + 1 + 1 := ⟨N - 3, by omega⟩
  have x0 : SimX s0 V n c jc pd (zu M 202 (upd (M 202) 6 0)) F I J G K w e (zu (zu R 1 (upd (R 1) 1 0)) 0 (upd (zu R 1 (upd (R 1) 1 0) 0) 17 (R 0 17))) := by
    obtain ⟨hA, hD, hB, hP, hJ, hV, hS1, hS2, hM⟩ := SimX_of h
    obtain ⟨c0, c1, c2, c3, c4, c5, c6, c7, c8, c9, c10, c11, c12, c13⟩ := hS1
    exact ⟨hA, hD, hB, hP, hJ, hV, ⟨c0, c1, c2, c3, rfl, Or.inl rfl, c6, c7, c8, c9, fun z => absurd z (show ¬ (0 : Int32) = 1 by decide), c11, c12, c13⟩, hS2, hM⟩
  have hM0 := sim_m h
  have tt := sim_t2 h
  have hb : SimB (R 4) (R 5) (R 13) (R 14) (R 16) (R 22) (R 23) := sim_b h
  obtain ⟨m1, m2, m3, m4, -⟩ := sim_m h
  obtain ⟨c1, w1, a1, a2, a3, a4⟩ := s_endStream (N := N) (A := A) (X := X) (F := F) (I := I) (J := J) (G := G) (K := K) (e := e) (ni 1) m2 m1 m4 (by omega)
  obtain ⟨c2, R2, b1, b2, b3, b4, b5⟩ := k_cutOff (N := N) (B := B) (Y := Y) (R := zu (zu R 1 (upd (R 1) 1 0)) 0 (upd (zu R 1 (upd (R 1) 1 0) 0) 17 (R 0 17))) (c := c) (ni 1) m3 (by omega) hb.2.2.2.2.2.1 hb.2.2.2.2.2.2 (by omega)
  obtain ⟨e1, q⟩ := simM_cut (R := R) (ni 1) hM0 a2 a3 a4 b3 b5
  subst e1
  have f1 : (mlist F I w1 c2).filter (ofS 1) = [] := by
    rw [a4, List.filter_filter]
    have : (fun m => ofS 1 m && !ofS (ni 1) m) = fun _ => false := by
      funext m
      show (ofS 1 m && !ofS 1 m) = false
      cases ofS 1 m <;> rfl
    rw [this]
    simp
  have f2 : (mlist F I w1 c2).filter (ofS 2) = (mlist F I w c).filter (ofS 2) := by
    rw [a4, List.filter_filter]
    congr 1
    funext m
    show (ofS 2 m && !ofS 1 m) = ofS 2 m
    unfold ofS
    cases onS m with
    | false => rfl
    | true =>
      by_cases z : m.1 2 = 2
      · rw [z]
        decide
      · simp [z]
  have hx : SimX s0 V n c2 jc pd (zu (zu M 6 (upd (M 6) 1 (ni c2))) 202 (upd (zu M 6 (upd (M 6) 1 (ni c2)) 202) 6 0)) F I J G K w1 e R2 := by
    refine SimX_msgs x0 (fun k hk => ?_) b4 ?_
    · by_cases hk2 : k = 202
      · rw [hk2]
        rfl
      · rw [zu_ne _ hk2, zu_ne _ hk2, zu_ne _ hk]
    · rw [b2]
      exact q
  refine ⟨c2, _, w1, R2, ?_, ?_, SimX_to hx (Or.inl f1) (by rw [f2, b4.1 1 (by decide) (by decide), b4.1 6 (by decide) (by decide), b4.1 5 (by decide) (by decide)]; exact tt)⟩
  · unfold f_ZoneNodes_crash
    rw [s_isNode, zb1_some, if_pos (show (0 : Int32) ≤ ni 1 ∧ ni 1 ≤ 2 by decide), if_neg n10, ck0, zb1_some, s_isUp1 (by rw [(sim_1 h).2.2.2.2.1]; exact (sim_1 h).2.2.2.2.2.1), zb1_some, (sim_1 h).2.2.2.2.1, hu, if_neg n10, if_neg n1z, cr0_3, zb1_some, ck6, zb1_some, a1, zb2_some, cr0_5, zb1_some, show ni 1 - 1 = ni 0 from rfl, x_ar0, zb1_some, cz202_6 (Or.inl rfl), zb1_some]
  · unfold f_ZoneNodesModel_crash
    rw [k_isNode, zb1_some, if_pos (show (0 : Int32) ≤ ni 1 ∧ ni 1 ≤ 2 by decide), if_neg n10, rr4, zb1_some, ra1 (i := 1) (by decide), zb1_some, hu, if_neg n10, zb1_some, rs1 (i := 1) (by decide) (Or.inl rfl), zb1_some, if_neg n1z, rg17, zb1_some, rq17, zb1_some]
    rw [show L_ZoneNodesModel_crash_43 N B (ni 1) N = L_ZoneNodesModel_crash_43 N B (ni 1) (f + 1 + 1 + 1) from by rw [← hf]]
    have b1' : f_ZoneNodesModel_cutOff N (zR B Y (zu (zu R 1 (upd (R 1) 1 0)) 0 (upd (zu R 1 (upd (R 1) 1 0) 0) 17 (zu R 1 (upd (R 1) 1 0) 0 17)))) B (ni 1) = some ((), zR B Y R2) := b1
    rw [L_ZoneNodesModel_crash_43, if_neg (by decide), if_neg n1z, if_pos (show ni 1 = 1 from rfl), rck, zb1_some, show (1 : Int32) = ni 1 from rfl, b1', zb2_some, if_neg n1z]
    rw [L_ZoneNodesModel_crash_43, if_neg (by decide), if_neg n1z, if_neg (by decide), if_neg n1z]
    rw [L_ZoneNodesModel_crash_43, if_pos (by decide), zb2_some]
/-- secondary 2 goes down -/
theorem Sim_downS2 (h : Sim s0 V n c jc pd M F I J G K w e R) (hu : R 1 2 = 1) (hN : 300 < N) :
    ∃ c' M' w' R', f_ZoneNodes_crash N (zC A X M F I J G K w e) A (ni 2) = some (1, zC A X M' F I J G K w' e) ∧ f_ZoneNodesModel_crash N (zR B Y R) B (ni 2) = some (1, zR B Y R') ∧ Sim s0 V n c' jc pd M' F I J G K w' e R' := by
  obtain ⟨f, hf⟩ : ∃ f, N = f + 1 + 1 + 1 := ⟨N - 3, by omega⟩
  have x0 : SimX s0 V n c jc pd (zu M 207 (upd (M 207) 6 0)) F I J G K w e (zu (zu R 1 (upd (R 1) 2 0)) 0 (upd (zu R 1 (upd (R 1) 2 0) 0) 17 (R 0 17))) := by
    obtain ⟨hA, hD, hB, hP, hJ, hV, hS1, hS2, hM⟩ := SimX_of h
    obtain ⟨c0, c1, c2, c3, c4, c5, c6, c7, c8, c9, c10, c11, c12, c13⟩ := hS2
    exact ⟨hA, hD, hB, hP, hJ, hV, hS1, ⟨c0, c1, c2, c3, rfl, Or.inl rfl, c6, c7, c8, c9, fun z => absurd z (show ¬ (0 : Int32) = 1 by decide), c11, c12, c13⟩, hM⟩
  have hM0 := sim_m h
  have tt := sim_t1 h
  have hb : SimB (R 4) (R 5) (R 13) (R 14) (R 16) (R 22) (R 23) := sim_b h
  obtain ⟨m1, m2, m3, m4, -⟩ := sim_m h
  obtain ⟨c1, w1, a1, a2, a3, a4⟩ := s_endStream (N := N) (A := A) (X := X) (F := F) (I := I) (J := J) (G := G) (K := K) (e := e) (ni 2) m2 m1 m4 (by omega)
  obtain ⟨c2, R2, b1, b2, b3, b4, b5⟩ := k_cutOff (N := N) (B := B) (Y := Y) (R := zu (zu R 1 (upd (R 1) 2 0)) 0 (upd (zu R 1 (upd (R 1) 2 0) 0) 17 (R 0 17))) (c := c) (ni 2) m3 (by omega) hb.2.2.2.2.2.1 hb.2.2.2.2.2.2 (by omega)
  obtain ⟨e1, q⟩ := simM_cut (R := R) (ni 2) hM0 a2 a3 a4 b3 b5
  subst e1
  have f1 : (mlist F I w1 c2).filter (ofS 2) = [] := by
    rw [a4, List.filter_filter]
    have : (fun m => ofS 2 m && !ofS (ni 2) m) = fun _ => false := by
      funext m
      show (ofS 2 m && !ofS 2 m) = false
      cases ofS 2 m <;> rfl
    rw [this]
    simp
  have f2 : (mlist F I w1 c2).filter (ofS 1) = (mlist F I w c).filter (ofS 1) := by
    rw [a4, List.filter_filter]
    congr 1
    funext m
    show (ofS 1 m && !ofS 2 m) = ofS 1 m
    unfold ofS
    cases onS m with
    | false => rfl
    | true =>
      by_cases z : m.1 2 = 1
      · rw [z]
        decide
      · simp [z]
  have hx : SimX s0 V n c2 jc pd (zu (zu M 6 (upd (M 6) 1 (ni c2))) 207 (upd (zu M 6 (upd (M 6) 1 (ni c2)) 207) 6 0)) F I J G K w1 e R2 := by
    refine SimX_msgs x0 (fun k hk => ?_) b4 ?_
    · by_cases hk2 : k = 207
      · rw [hk2]
        rfl
      · rw [zu_ne _ hk2, zu_ne _ hk2, zu_ne _ hk]
    · rw [b2]
      exact q
  refine ⟨c2, _, w1, R2, ?_, ?_, SimX_to hx (by rw [f2, b4.1 1 (by decide) (by decide), b4.1 6 (by decide) (by decide), b4.1 5 (by decide) (by decide)]; exact tt) (Or.inl f1)⟩
  · unfold f_ZoneNodes_crash
    rw [s_isNode, zb1_some, if_pos (show (0 : Int32) ≤ ni 2 ∧ ni 2 ≤ 2 by decide), if_neg n10, ck0, zb1_some, s_isUp2 (by rw [(sim_2 h).2.2.2.2.1]; exact (sim_2 h).2.2.2.2.2.1), zb1_some, (sim_2 h).2.2.2.2.1, hu, if_neg n10, if_neg n2z, cr0_3, zb1_some, ck6, zb1_some, a1, zb2_some, cr0_5, zb1_some, show ni 2 - 1 = ni 1 from rfl, x_ar1, zb1_some, cz207_6 (Or.inl rfl), zb1_some]
  · unfold f_ZoneNodesModel_crash
    rw [k_isNode, zb1_some, if_pos (show (0 : Int32) ≤ ni 2 ∧ ni 2 ≤ 2 by decide), if_neg n10, rr4, zb1_some, ra1 (i := 2) (by decide), zb1_some, hu, if_neg n10, zb1_some, rs1 (i := 2) (by decide) (Or.inl rfl), zb1_some, if_neg n2z, rg17, zb1_some, rq17, zb1_some]
    rw [show L_ZoneNodesModel_crash_43 N B (ni 2) N = L_ZoneNodesModel_crash_43 N B (ni 2) (f + 1 + 1 + 1) from by rw [← hf]]
    have b1' : f_ZoneNodesModel_cutOff N (zR B Y (zu (zu R 1 (upd (R 1) 2 0)) 0 (upd (zu R 1 (upd (R 1) 2 0) 0) 17 (zu R 1 (upd (R 1) 2 0) 0 17)))) B (ni 2) = some ((), zR B Y R2) := b1
    rw [L_ZoneNodesModel_crash_43, if_neg (by decide), if_neg n2z, if_neg (show ¬ ni 2 = 1 by decide), if_neg n2z]
    rw [L_ZoneNodesModel_crash_43, if_neg (by decide), if_neg n2z, if_pos (show ni 2 = 1 + 1 from rfl), rck, zb1_some, show (1 : Int32) + 1 = ni 2 from rfl, b1', zb2_some, if_neg n2z]
    rw [L_ZoneNodesModel_crash_43, if_pos (by decide), zb2_some]
theorem o_crash (h : Sim s0 V n c jc pd M F I J G K w e R) (x : Int32) (hN : 300 < N) : ∃ r c' M' w' R', f_ZoneNodes_crash N (zC A X M F I J G K w e) A x = some (r, zC A X M' F I J G K w' e) ∧ f_ZoneNodesModel_crash N (zR B Y R) B x = some (r, zR B Y R') ∧ Sim s0 V n c' jc pd M' F I J G K w' e R' := by
  by_cases hx : 0 ≤ x ∧ x ≤ 2
  · rcases node_cases hx with rfl | rfl | rfl
    · have hp := sim_p h
      have u0 : M 169 8 = R 1 0 := hp.1
      rcases hp.2.1 with u | u
      · refine ⟨0, c, M, w, R, ?_, ?_, h⟩
        · unfold f_ZoneNodes_crash
          rw [s_isNode, zb1_some, if_pos hx, if_neg n10, ck0, zb1_some, s_isUp0 (by rw [u0]; exact hp.2.1), zb1_some, u0, u, if_pos rfl]
        · unfold f_ZoneNodesModel_crash
          rw [k_isNode, zb1_some, if_pos hx, if_neg n10, rr4, zb1_some, ra1 (i := 0) (by decide), zb1_some, u, if_pos rfl]
      · have h0 : SimX s0 V n c jc pd (zu (zu M 169 (upd (M 169) 8 0)) 169 (upd ((zu M 169 (upd (M 169) 8 0)) 169) 7 0)) F I J G K w e (zu (zu R 1 (upd (R 1) 0 0)) 0 (upd ((zu R 1 (upd (R 1) 0 0)) 0) 17 0)) := by
          obtain ⟨hA, hD, hB, hP, hJ, hV, hS1, hS2, hM⟩ := SimX_of h
          obtain ⟨-, -, -, -, p5, p6, p7, p8, p9, p10, p11⟩ := hP
          obtain ⟨j1, j2, j3, j4, -, j6, j7, j8, j9⟩ := hJ
          exact ⟨hA, hD, hB, ⟨rfl, Or.inl rfl, rfl, Or.inl rfl, p5, p6, p7, p8, p9, p10, p11⟩, ⟨j1, j2, j3, j4, fun z => absurd z (show ¬ (0 : Int32) = 1 by decide), j6, j7, j8, j9⟩, hV, hS1, hS2, hM⟩
        obtain ⟨c1, M1, w1, R1, a1, a2, a3⟩ := Sim_down (N := N) (A := A) (X := X) (B := B) (Y := Y) h0 u hN
        refine ⟨1, c1, M1, w1, R1, ?_, a2, a3⟩
        unfold f_ZoneNodes_crash
        rw [s_isNode, zb1_some, if_pos hx, if_neg n10, ck0, zb1_some, s_isUp0 (by rw [u0]; exact hp.2.1), zb1_some, u0, u, if_neg n10, if_pos z00, zb1_some, a1, zb2_some]
    · have hp := sim_1 h
      have u0 : M 202 6 = R 1 1 := hp.2.2.2.2.1
      have u01 := hp.2.2.2.2.2.1
      rcases u01 with u | u
      · refine ⟨0, c, M, w, R, ?_, ?_, h⟩
        · unfold f_ZoneNodes_crash
          rw [s_isNode, zb1_some, if_pos hx, if_neg n10, ck0, zb1_some, s_isUp1 (by rw [u0]; exact Or.inl u), zb1_some, u0, u, if_pos rfl]
        · unfold f_ZoneNodesModel_crash
          rw [k_isNode, zb1_some, if_pos hx, if_neg n10, rr4, zb1_some, ra1 (i := 1) (by decide), zb1_some, u, if_pos rfl]
      · obtain ⟨c1, M1, w1, R1, a1, a2, a3⟩ := Sim_downS1 (N := N) (A := A) (X := X) (B := B) (Y := Y) h u hN
        exact ⟨1, c1, M1, w1, R1, a1, a2, a3⟩
    · have hp := sim_2 h
      have u0 : M 207 6 = R 1 2 := hp.2.2.2.2.1
      have u01 := hp.2.2.2.2.2.1
      rcases u01 with u | u
      · refine ⟨0, c, M, w, R, ?_, ?_, h⟩
        · unfold f_ZoneNodes_crash
          rw [s_isNode, zb1_some, if_pos hx, if_neg n10, ck0, zb1_some, s_isUp2 (by rw [u0]; exact Or.inl u), zb1_some, u0, u, if_pos rfl]
        · unfold f_ZoneNodesModel_crash
          rw [k_isNode, zb1_some, if_pos hx, if_neg n10, rr4, zb1_some, ra1 (i := 2) (by decide), zb1_some, u, if_pos rfl]
      · obtain ⟨c1, M1, w1, R1, a1, a2, a3⟩ := Sim_downS2 (N := N) (A := A) (X := X) (B := B) (Y := Y) h u hN
        exact ⟨1, c1, M1, w1, R1, a1, a2, a3⟩
  · refine ⟨0, c, M, w, R, ?_, ?_, h⟩
    · unfold f_ZoneNodes_crash
      rw [s_isNode, zb1_some, if_neg hx, if_pos rfl]
    · unfold f_ZoneNodesModel_crash
      rw [k_isNode, zb1_some, if_neg hx, if_pos rfl]
end ZSIMH
