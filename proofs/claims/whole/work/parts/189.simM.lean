/-! deliver: a PART at a secondary -/
section ZSIMM
variable {A B : Nat} {X Y : zh_T} {M F I J G K : Nat → Nat → Int32} {w e : Nat → Nat} {R : Nat → Nat → Int32} {N n c jc pd : Nat} {s0 : Int32} {V : Nat → Nat → Bool}
theorem part_split {s : Nat} {sI : Int32} {f fr fi : Nat → Int32} {up0 up6 : Int32} {R5 : Nat → Int32} (T : SimT s0 V n s f fr fi up0 up6 R5 ((mlist F I w c).filter (ofS sI))) {k : Nat} (hk : k < c) (h5 : F (w k) 1 = 5) (h2 : F (w k) 2 = sI) (hb : ¬ ∃ q, q < k ∧ F (w q) 1 = 5 ∧ F (w q) 2 = F (w k) 2) :
    up0 = 1 ∧ f 6 = 1 ∧ f 9 = 2 ∧ up6 = 2 ∧ ∃ (k0 b : Nat) (wh : Int32), k0 + ((mlist F I (rot w k (c - 1)) (c - 1)).filter (ofS sI)).length + 1 ≤ 28 ∧ b ≤ n ∧ (wh = 0 ∨ wh = 1) ∧ (wh = 0 → f 7 = 1) ∧ (∀ q, q < 256 → rb R5 (256 * s + q) = V b q) ∧
      partsOk (s0 + ni b) wh (V b) ((F (w k), I (w k)) :: (mlist F I (rot w k (c - 1)) (c - 1)).filter (ofS sI)) k0 (if k0 = 0 then (if wh = 0 then cs fr else fun _ => false) else cs fi) := by
  have hof : ofS sI (F (w k), I (w k)) = true := by
    unfold ofS onS
    rw [show (F (w k), I (w k)).1 1 = 5 from h5, show (F (w k), I (w k)).1 2 = sI from h2]
    simp
  obtain ⟨a, b, e1, e2, e3⟩ := filter_split (mlist F I w c) k _ (mlist_get F I w hk) hof
  rw [mlist_rot F I w hk]
  rcases T with T | ⟨u0, f6, f9, u6, T⟩
  · rw [T] at e1
    simp at e1
  · refine ⟨u0, f6, f9, u6, ?_⟩
    rcases T with ⟨m, hm, m4, -⟩ | ⟨k0, b0, wh, q1, q2, q3, q4, q5, q6⟩
    · rw [hm] at e1
      have hmem : (F (w k), I (w k)) ∈ [m] := by rw [e1]; simp
      rw [List.mem_singleton] at hmem
      rw [← hmem] at m4
      exact absurd (h5.symm.trans m4) (by decide)
    · have ha : a = [] := by
        cases a with
        | nil => rfl
        | cons y a =>
          obtain ⟨q, hq1, hq2⟩ := e3 y List.mem_cons_self
          have hy : y ∈ (mlist F I w c).filter (ofS sI) := by rw [e1]; simp
          have hy5 := parts_kind _ _ _ _ _ _ q6 y hy
          have hyo := (List.mem_filter.mp hy).2
          rw [mlist_get F I w (show q < c by omega)] at hq2
          have hqe : (F (w q), I (w q)) = y := Option.some.inj hq2
          rw [← hqe] at hy5 hyo
          unfold ofS at hyo
          rw [Bool.and_eq_true, decide_eq_true_eq] at hyo
          exact absurd ⟨q, hq1, hy5, hyo.2.trans h2.symm⟩ hb
      rw [ha, List.nil_append] at e1 e2
      rw [e2]
      rw [e1] at q1 q6
      rw [List.length_cons] at q1
      exact ⟨k0, b0, wh, by omega, q2, q3, q4, q5, q6⟩
theorem fetch_split {s : Nat} {sI : Int32} {f fr fi : Nat → Int32} {up0 up6 : Int32} {R5 : Nat → Int32} (T : SimT s0 V n s f fr fi up0 up6 R5 ((mlist F I w c).filter (ofS sI))) {k : Nat} (hk : k < c) (h4 : F (w k) 1 = 4) (h2 : F (w k) 2 = sI) :
    up0 = 1 ∧ f 6 = 1 ∧ f 9 = 2 ∧ up6 = 2 ∧ F (w k) 3 = f 7 ∧ F (w k) 4 = f 8 ∧ (mlist F I (rot w k (c - 1)) (c - 1)).filter (ofS sI) = [] := by
  have hof : ofS sI (F (w k), I (w k)) = true := by
    unfold ofS onS
    rw [show (F (w k), I (w k)).1 1 = 4 from h4, show (F (w k), I (w k)).1 2 = sI from h2]
    simp
  obtain ⟨a, b, e1, e2, -⟩ := filter_split (mlist F I w c) k _ (mlist_get F I w hk) hof
  rw [mlist_rot F I w hk]
  rcases T with T | ⟨u0, f6, f9, u6, T⟩
  · rw [T] at e1
    simp at e1
  · refine ⟨u0, f6, f9, u6, ?_⟩
    rcases T with ⟨m, hm, m4, m3, m5⟩ | ⟨k0, b0, wh, q1, q2, q3, q4, q5, q6⟩
    · rw [hm] at e1
      cases a with
      | nil =>
        rw [List.nil_append] at e1 e2
        injection e1 with z1 z2
        rw [z1] at m3 m5
        rw [e2, ← z2]
        exact ⟨m3, m5, rfl⟩
      | cons y a =>
        injection e1 with z1 z2
        simp at z2
    · have hy : (F (w k), I (w k)) ∈ (mlist F I w c).filter (ofS sI) := by rw [e1]; simp
      have hy5 := parts_kind _ _ _ _ _ _ q6 _ hy
      exact absurd (h4.symm.trans hy5) (by decide)
theorem k_part_go {s : Nat} (hs : s < 3) (hb : b01 (R 5) 768) (sr : Int32) (hN : 300 < N) : f_ZoneNodesModel_takePart N (zR B Y R) B (ni s) sr 0 1 =
    some ((), zR B Y (zu (zu (zu (zu (zu (zu R 2 (upd (R 2) s 1)) 3 (upd (R 3) s sr)) 4 (cpR (R 4) (R 5) (256 * s) (256 * s) 0 256)) 6 (upd (R 6) s 0)) 7 (upd (R 7) s (R 0 3 + R 0 0))) 8 (upd (R 8) s (R 0 3 + R 0 2)))) := by
  unfold f_ZoneNodesModel_takePart
  rw [if_pos rfl, if_neg n10, rr5, zb1_some, rs2 hs (Or.inr rfl), zb1_some, rr6, zb1_some, rs3 hs, zb1_some, show (0 : Int32) = ni 0 from rfl, k_copy_held (R := zu (zu R 2 (upd (R 2) s 1)) 3 (upd (zu R 2 (upd (R 2) s 1) 3) s sr)) hs 256 0 N (by exact hb) (by omega) (by omega), zb2_some, rck, zb1_some, k_refreshed hs, zb2_some]
  rfl
/-- a PART that is next at secondary 1 -/
theorem Sim_part1 (h : SimX s0 V n c jc pd M F I J G K w e R) {x : Nat} (hx : x < 80) (h5 : F x 1 = 5) (h9b : F x 9 = 0 ∨ F x 9 = 1) (u0 : R 1 0 = 1) (u1 : M 202 6 = 1) (u9 : M 202 9 = 2) (u6 : R 6 1 = 2) (To : SimT s0 V n 2 (M 207) (M 209) (M 211) (R 1 0) (R 6 2) (R 5) ((mlist F I w c).filter (ofS 2)))
    {k0 b : Nat} {wh : Int32} (q1 : k0 + ((mlist F I w c).filter (ofS 1)).length + 1 ≤ 28) (q2 : b ≤ n) (q3 : wh = 0 ∨ wh = 1) (q4 : wh = 0 → M 202 7 = 1) (q5 : ∀ q, q < 256 → rb (R 5) (256 * 1 + q) = V b q)
    (q6 : partsOk (s0 + ni b) wh (V b) ((F x, I x) :: (mlist F I w c).filter (ofS 1)) k0 (if k0 = 0 then (if wh = 0 then cs (M 204) else fun _ => false) else cs (M 206))) (hN : 300 < N) :
    ∃ c' M' w' R', f_ZoneNodes_arriveAtSecondary N (zC A X M F I J G K w e) A (A + (8 + 2 * x)) (A + 202) = some ((), zC A X M' F I J G K w' e) ∧ f_ZoneNodesModel_takePart N (zR B Y R) B (ni 1) (F x 4) (F x 9) (F x 8) = some ((), zR B Y R') ∧ Sim s0 V n c' jc pd M' F I J G K w' e R' := by
  have hX := h
  obtain ⟨hA, hD, hB, hP, hJ, hV, hS1, hS2, hM⟩ := h
  obtain ⟨c0, c1, c2, c3, c4, c5, c6, c7, c8, c9, c10, c11, c12, c13⟩ := hS1
  have hclk : M 0 6 = R 0 3 := hA.1
  unfold f_ZoneNodes_arriveAtSecondary
  rw [cg202_6, zb1_some, u1, if_neg n10, m_gi hx (j := 1) rfl, zb1_some, h5, if_neg (show ¬ (5 : Int32) = 1 by decide), zb1_some, if_neg (show ¬ (5 : Int32) = 3 by decide), m_gi hx (j := 9) rfl, zb1_some]
  rcases h9b with a9 | a9
  · rw [a9, if_pos rfl, cg0_6, zb1_some, ck202, zb1_some, hclk]
    obtain ⟨l, it, l4, hit, -, p4, p5, p6, p7, p8⟩ := q6
    have p4' : F x 4 = s0 + ni b := p4
    have p5' : F x 5 = ni k0 := p5
    have p6' : F x 6 = ni l := p6
    have p7' : F x 7 = wh := p7
    obtain ⟨g, t1, t2, t3⟩ := s_takePart (N := N) (A := A) (X := X) (J := J) (G := G) (K := K) (w := w) (e := e) (M := M) (k := 202) (Or.inl rfl) hx p6' l4 it hit (R 0 3) c11 c12 (by omega)
    rw [t1, zb2_some]
    have hbase : tkBase M F 202 x = (if k0 = 0 then (if wh = 0 then cs (M 204) else fun _ => false) else cs (M 206)) := by
      unfold tkBase
      rw [p5', p7']
      by_cases z : k0 = 0
      · rw [if_pos z, if_pos ((ni_eq0 (x := k0) (by omega)).mpr z)]
      · rw [if_neg z, if_neg (fun q => z ((ni_eq0 (x := k0) (by omega)).mp q))]
    rw [hbase] at t3
    rcases p8 with ⟨r1, r2, r3⟩ | ⟨r1, r2, r3⟩
    · have r2' : F x 8 = 1 := r2
      rw [r2', k_part_go (by decide) hB.2.1 _ hN]
      have hm : tkM M F 202 x g (R 0 3) = zu (zu (zu M 206 g) 204 (zmix 0 (M 204) g)) 202 (secRefr (upd (upd (M 202) 8 (F x 4)) 7 1) (R 0 3)) := by
        unfold tkM
        rw [r2', if_neg n10]
      rw [hm]
      refine ⟨c, _, w, _, rfl, rfl, ?_⟩
      have hnew : SimS s0 V n 1 (secRefr (upd (upd (M 202) 8 (F x 4)) 7 1) (R 0 3)) (zmix 0 (M 204) g) g (R 0 0) (R 0 1) (R 0 2) (R 1) (upd (R 2) 1 1) (upd (R 3) 1 (F x 4)) (cpR (R 4) (R 5) (256 * 1) (256 * 1) 0 256) (upd (R 6) 1 0) (upd (R 7) 1 (R 0 3 + R 0 0)) (upd (R 8) 1 (R 0 3 + R 0 2)) := by
        refine ⟨c0, c1, c2, c3, c4, c5, rfl, Or.inr rfl, rfl, ?_, fun _ => ⟨rfl, fun _ => ?_, fun z => absurd z (show ¬ (0 : Int32) = 1 by decide)⟩, okS_mix _ t2, t2, fun _ => ⟨b, q2, p4', fun q hq => ?_, fun q hq => ?_⟩⟩
        · show R 0 3 + M 202 3 = R 0 3 + R 0 2
          rw [c3]
        · show R 0 3 + M 202 1 = R 0 3 + R 0 0
          rw [c1]
        · exact (cs_mix _ _ hq).trans ((t3 q hq).trans (r3 q hq))
        · show decide (cpR (R 4) (R 5) (256 * 1) (256 * 1) 0 256 (256 * 1 + q) = 1) = V b q
          rw [cpR_in _ _ hq]
          exact q5 q hq
      obtain ⟨d0, d1, d2, d3, d4, d5, d6, d7, d8, d9, d10, d11, d12, d13⟩ := hS2
      have hoth : SimS s0 V n 2 (M 207) (M 209) (M 211) (R 0 0) (R 0 1) (R 0 2) (R 1) (upd (R 2) 1 1) (upd (R 3) 1 (F x 4)) (cpR (R 4) (R 5) (256 * 1) (256 * 1) 0 256) (upd (R 6) 1 0) (upd (R 7) 1 (R 0 3 + R 0 0)) (upd (R 8) 1 (R 0 3 + R 0 2)) := by
        refine ⟨d0, d1, d2, d3, d4, d5, d6, d7, d8, d9, d10, d11, d12, fun z => ?_⟩
        obtain ⟨a, z1, z2, z3, z4⟩ := d13 z
        refine ⟨a, z1, z2, z3, fun q hq => ?_⟩
        show decide (cpR (R 4) (R 5) (256 * 1) (256 * 1) 0 256 (256 * 2 + q) = 1) = V a q
        rw [cpR_out _ _ (by omega)]
        exact z4 q hq
      have hP' : SimP s0 V n (M 169) (M 171) (M 173) (R 1 0) (R 0 17) (R 3 0) (R 2 0) (cpR (R 4) (R 5) (256 * 1) (256 * 1) 0 256) := by
        obtain ⟨x1, x2, x3, x4, x5, x6, x7, x8, x9, x10, x11⟩ := hP
        refine ⟨x1, x2, x3, x4, x5, x6, x7, x8, x9, x10, fun q hq => ?_⟩
        show decide (cpR (R 4) (R 5) (256 * 1) (256 * 1) 0 256 q = 1) = V n q
        rw [cpR_out _ _ (by omega)]
        exact x11 q hq
      obtain ⟨b1, b2, b3⟩ := hB
      have hb4 : b01 (cpR (R 4) (R 5) (256 * 1) (256 * 1) 0 256) 768 := cpR_b01 b1 b2 (by decide)
      exact ⟨hA, hD, ⟨hb4, b2, b3⟩, hP', hJ, hV, hnew, hoth, hM, Or.inl r1, To⟩
    · have r2' : F x 8 = 0 := r2
      have hm : tkM M F 202 x g (R 0 3) = zu M 206 g := by
        unfold tkM
        rw [r2', if_pos rfl]
      rw [r2', hm]
      refine ⟨c, _, w, R, rfl, ?_, ?_⟩
      · unfold f_ZoneNodesModel_takePart
        rw [if_pos rfl, if_pos rfl]
      · have hnew : SimS s0 V n 1 (M 202) (M 204) g (R 0 0) (R 0 1) (R 0 2) (R 1) (R 2) (R 3) (R 4) (R 6) (R 7) (R 8) := ⟨c0, c1, c2, c3, c4, c5, c6, c7, c8, c9, c10, c11, t2, c13⟩
        have hT : SimT s0 V n 1 (M 202) (M 204) g (R 1 0) (R 6 1) (R 5) ((mlist F I w c).filter (ofS 1)) := by
          refine Or.inr ⟨u0, u1, u9, u6, Or.inr ⟨k0 + 1, b, wh, by omega, q2, q3, q4, q5, ?_⟩⟩
          rw [if_neg (Nat.succ_ne_zero k0)]
          exact parts_eq _ _ _ _ _ _ _ (fun q hq => (t3 q hq).symm) r3
        exact ⟨hA, hD, hB, hP, hJ, hV, hnew, hS2, hM, hT, To⟩
  · rw [a9, if_neg n10, cr0_3, zb1_some, cg202_0, zb1_some, c0, ck6, zb1_some]
    obtain ⟨c', M1, w1, R1, a1, a2, a3, a4, a5, a6, a7⟩ := SimX_cut (N := N) (A := A) (X := X) (B := B) (Y := Y) hX (ni 1) hN
    have k1 : M1 0 6 = R1 0 3 := a7.1.1
    have f9 : M1 202 9 = 2 := by rw [a4 202 (by decide)]; exact u9
    have g6 : R1 6 = R 6 := a3.1 6 (by decide) (by decide)
    have g5 : R1 5 = R 5 := a3.1 5 (by decide) (by decide)
    have g1 : R1 1 = R 1 := a3.1 1 (by decide) (by decide)
    rw [a1, zb2_some, cg0_6, zb1_some, ck202, zb1_some, k1, s_loseStream (Or.inl rfl), if_pos f9, zb2_some]
    unfold f_ZoneNodesModel_takePart
    rw [if_neg n10, rck, zb1_some, a2, zb2_some, rg1, zb1_some, rck, zb1_some, k_rest (by decide), zb2_some]
    refine ⟨c', _, w1, _, rfl, rfl, ?_⟩
    have hTo : SimT s0 V n 2 (M1 207) (M1 209) (M1 211) (R1 1 0) (R1 6 2) (R1 5) ((mlist F I w1 c').filter (ofS 2)) := by
      rw [a6 2 (by decide), g1, g6, g5, a4 207 (by decide), a4 209 (by decide), a4 211 (by decide)]
      exact To
    obtain ⟨hA, hD, hB, hP, hJ, hV, hS1, hS2, hM⟩ := a7
    obtain ⟨c0, c1, c2, c3, c4, c5, c6, c7, c8, c9, c10, c11, c12, c13⟩ := hS1
    have hnew : SimS s0 V n 1 (secRest (M1 202) (R1 0 3 + M1 202 2)) (M1 204) (M1 206) (R1 0 0) (R1 0 1) (R1 0 2) (R1 1) (R1 2) (R1 3) (R1 4) (upd (R1 6) 1 0) (upd (R1 7) 1 (R1 0 3 + R1 0 1)) (R1 8) :=
      ⟨c0, c1, c2, c3, c4, c5, c6, c7, c8, c9, fun _ => ⟨rfl, fun _ => by show R1 0 3 + M1 202 2 = R1 0 3 + R1 0 1; rw [c2], fun z => absurd z (show ¬ (0 : Int32) = 1 by decide)⟩, c11, c12, c13⟩
    exact ⟨hA, hD, hB, hP, hJ, hV, hnew, hS2, hM, Or.inl a5, hTo⟩
/-- a PART that is next at secondary 2 -/
theorem Sim_part2 (h : SimX s0 V n c jc pd M F I J G K w e R) {x : Nat} (hx : x < 80) (h5 : F x 1 = 5) (h9b : F x 9 = 0 ∨ F x 9 = 1) (u0 : R 1 0 = 1) (u1 : M 207 6 = 1) (u9 : M 207 9 = 2) (u6 : R 6 2 = 2) (To : SimT s0 V n 1 (M 202) (M 204) (M 206) (R 1 0) (R 6 1) (R 5) ((mlist F I w c).filter (ofS 1)))
    {k0 b : Nat} {wh : Int32} (q1 : k0 + ((mlist F I w c).filter (ofS 2)).length + 1 ≤ 28) (q2 : b ≤ n) (q3 : wh = 0 ∨ wh = 1) (q4 : wh = 0 → M 207 7 = 1) (q5 : ∀ q, q < 256 → rb (R 5) (256 * 2 + q) = V b q)
    (q6 : partsOk (s0 + ni b) wh (V b) ((F x, I x) :: (mlist F I w c).filter (ofS 2)) k0 (if k0 = 0 then (if wh = 0 then cs (M 209) else fun _ => false) else cs (M 211))) (hN : 300 < N) :
    ∃ c' M' w' R', f_ZoneNodes_arriveAtSecondary N (zC A X M F I J G K w e) A (A + (8 + 2 * x)) (A + 207) = some ((), zC A X M' F I J G K w' e) ∧ f_ZoneNodesModel_takePart N (zR B Y R) B (ni 2) (F x 4) (F x 9) (F x 8) = some ((), zR B Y R') ∧ Sim s0 V n c' jc pd M' F I J G K w' e R' := by
  have hX := h
  obtain ⟨hA, hD, hB, hP, hJ, hV, hS1, hS2, hM⟩ := h
  obtain ⟨c0, c1, c2, c3, c4, c5, c6, c7, c8, c9, c10, c11, c12, c13⟩ := hS2
  have hclk : M 0 6 = R 0 3 := hA.1
  unfold f_ZoneNodes_arriveAtSecondary
  rw [cg207_6, zb1_some, u1, if_neg n10, m_gi hx (j := 1) rfl, zb1_some, h5, if_neg (show ¬ (5 : Int32) = 1 by decide), zb1_some, if_neg (show ¬ (5 : Int32) = 3 by decide), m_gi hx (j := 9) rfl, zb1_some]
  rcases h9b with a9 | a9
  · rw [a9, if_pos rfl, cg0_6, zb1_some, ck207, zb1_some, hclk]
    obtain ⟨l, it, l4, hit, -, p4, p5, p6, p7, p8⟩ := q6
    have p4' : F x 4 = s0 + ni b := p4
    have p5' : F x 5 = ni k0 := p5
    have p6' : F x 6 = ni l := p6
    have p7' : F x 7 = wh := p7
    obtain ⟨g, t1, t2, t3⟩ := s_takePart (N := N) (A := A) (X := X) (J := J) (G := G) (K := K) (w := w) (e := e) (M := M) (k := 207) (Or.inr rfl) hx p6' l4 it hit (R 0 3) c11 c12 (by omega)
    rw [t1, zb2_some]
    have hbase : tkBase M F 207 x = (if k0 = 0 then (if wh = 0 then cs (M 209) else fun _ => false) else cs (M 211)) := by
      unfold tkBase
      rw [p5', p7']
      by_cases z : k0 = 0
      · rw [if_pos z, if_pos ((ni_eq0 (x := k0) (by omega)).mpr z)]
      · rw [if_neg z, if_neg (fun q => z ((ni_eq0 (x := k0) (by omega)).mp q))]
    rw [hbase] at t3
    rcases p8 with ⟨r1, r2, r3⟩ | ⟨r1, r2, r3⟩
    · have r2' : F x 8 = 1 := r2
      rw [r2', k_part_go (by decide) hB.2.1 _ hN]
      have hm : tkM M F 207 x g (R 0 3) = zu (zu (zu M 211 g) 209 (zmix 0 (M 209) g)) 207 (secRefr (upd (upd (M 207) 8 (F x 4)) 7 1) (R 0 3)) := by
        unfold tkM
        rw [r2', if_neg n10]
      rw [hm]
      refine ⟨c, _, w, _, rfl, rfl, ?_⟩
      have hnew : SimS s0 V n 2 (secRefr (upd (upd (M 207) 8 (F x 4)) 7 1) (R 0 3)) (zmix 0 (M 209) g) g (R 0 0) (R 0 1) (R 0 2) (R 1) (upd (R 2) 2 1) (upd (R 3) 2 (F x 4)) (cpR (R 4) (R 5) (256 * 2) (256 * 2) 0 256) (upd (R 6) 2 0) (upd (R 7) 2 (R 0 3 + R 0 0)) (upd (R 8) 2 (R 0 3 + R 0 2)) := by
        refine ⟨c0, c1, c2, c3, c4, c5, rfl, Or.inr rfl, rfl, ?_, fun _ => ⟨rfl, fun _ => ?_, fun z => absurd z (show ¬ (0 : Int32) = 1 by decide)⟩, okS_mix _ t2, t2, fun _ => ⟨b, q2, p4', fun q hq => ?_, fun q hq => ?_⟩⟩
        · show R 0 3 + M 207 3 = R 0 3 + R 0 2
          rw [c3]
        · show R 0 3 + M 207 1 = R 0 3 + R 0 0
          rw [c1]
        · exact (cs_mix _ _ hq).trans ((t3 q hq).trans (r3 q hq))
        · show decide (cpR (R 4) (R 5) (256 * 2) (256 * 2) 0 256 (256 * 2 + q) = 1) = V b q
          rw [cpR_in _ _ hq]
          exact q5 q hq
      obtain ⟨d0, d1, d2, d3, d4, d5, d6, d7, d8, d9, d10, d11, d12, d13⟩ := hS1
      have hoth : SimS s0 V n 1 (M 202) (M 204) (M 206) (R 0 0) (R 0 1) (R 0 2) (R 1) (upd (R 2) 2 1) (upd (R 3) 2 (F x 4)) (cpR (R 4) (R 5) (256 * 2) (256 * 2) 0 256) (upd (R 6) 2 0) (upd (R 7) 2 (R 0 3 + R 0 0)) (upd (R 8) 2 (R 0 3 + R 0 2)) := by
        refine ⟨d0, d1, d2, d3, d4, d5, d6, d7, d8, d9, d10, d11, d12, fun z => ?_⟩
        obtain ⟨a, z1, z2, z3, z4⟩ := d13 z
        refine ⟨a, z1, z2, z3, fun q hq => ?_⟩
        show decide (cpR (R 4) (R 5) (256 * 2) (256 * 2) 0 256 (256 * 1 + q) = 1) = V a q
        rw [cpR_out _ _ (by omega)]
        exact z4 q hq
      have hP' : SimP s0 V n (M 169) (M 171) (M 173) (R 1 0) (R 0 17) (R 3 0) (R 2 0) (cpR (R 4) (R 5) (256 * 2) (256 * 2) 0 256) := by
        obtain ⟨x1, x2, x3, x4, x5, x6, x7, x8, x9, x10, x11⟩ := hP
        refine ⟨x1, x2, x3, x4, x5, x6, x7, x8, x9, x10, fun q hq => ?_⟩
        show decide (cpR (R 4) (R 5) (256 * 2) (256 * 2) 0 256 q = 1) = V n q
        rw [cpR_out _ _ (by omega)]
        exact x11 q hq
      obtain ⟨b1, b2, b3⟩ := hB
      have hb4 : b01 (cpR (R 4) (R 5) (256 * 2) (256 * 2) 0 256) 768 := cpR_b01 b1 b2 (by decide)
      exact ⟨hA, hD, ⟨hb4, b2, b3⟩, hP', hJ, hV, hoth, hnew, hM, To, Or.inl r1⟩
    · have r2' : F x 8 = 0 := r2
      have hm : tkM M F 207 x g (R 0 3) = zu M 211 g := by
        unfold tkM
        rw [r2', if_pos rfl]
      rw [r2', hm]
      refine ⟨c, _, w, R, rfl, ?_, ?_⟩
      · unfold f_ZoneNodesModel_takePart
        rw [if_pos rfl, if_pos rfl]
      · have hnew : SimS s0 V n 2 (M 207) (M 209) g (R 0 0) (R 0 1) (R 0 2) (R 1) (R 2) (R 3) (R 4) (R 6) (R 7) (R 8) := ⟨c0, c1, c2, c3, c4, c5, c6, c7, c8, c9, c10, c11, t2, c13⟩
        have hT : SimT s0 V n 2 (M 207) (M 209) g (R 1 0) (R 6 2) (R 5) ((mlist F I w c).filter (ofS 2)) := by
          refine Or.inr ⟨u0, u1, u9, u6, Or.inr ⟨k0 + 1, b, wh, by omega, q2, q3, q4, q5, ?_⟩⟩
          rw [if_neg (Nat.succ_ne_zero k0)]
          exact parts_eq _ _ _ _ _ _ _ (fun q hq => (t3 q hq).symm) r3
        exact ⟨hA, hD, hB, hP, hJ, hV, hS1, hnew, hM, To, hT⟩
  · rw [a9, if_neg n10, cr0_3, zb1_some, cg207_0, zb1_some, c0, ck6, zb1_some]
    obtain ⟨c', M1, w1, R1, a1, a2, a3, a4, a5, a6, a7⟩ := SimX_cut (N := N) (A := A) (X := X) (B := B) (Y := Y) hX (ni 2) hN
    have k1 : M1 0 6 = R1 0 3 := a7.1.1
    have f9 : M1 207 9 = 2 := by rw [a4 207 (by decide)]; exact u9
    have g6 : R1 6 = R 6 := a3.1 6 (by decide) (by decide)
    have g5 : R1 5 = R 5 := a3.1 5 (by decide) (by decide)
    have g1 : R1 1 = R 1 := a3.1 1 (by decide) (by decide)
    rw [a1, zb2_some, cg0_6, zb1_some, ck207, zb1_some, k1, s_loseStream (Or.inr rfl), if_pos f9, zb2_some]
    unfold f_ZoneNodesModel_takePart
    rw [if_neg n10, rck, zb1_some, a2, zb2_some, rg1, zb1_some, rck, zb1_some, k_rest (by decide), zb2_some]
    refine ⟨c', _, w1, _, rfl, rfl, ?_⟩
    have hTo : SimT s0 V n 1 (M1 202) (M1 204) (M1 206) (R1 1 0) (R1 6 1) (R1 5) ((mlist F I w1 c').filter (ofS 1)) := by
      rw [a6 1 (by decide), g1, g6, g5, a4 202 (by decide), a4 204 (by decide), a4 206 (by decide)]
      exact To
    obtain ⟨hA, hD, hB, hP, hJ, hV, hS1, hS2, hM⟩ := a7
    obtain ⟨c0, c1, c2, c3, c4, c5, c6, c7, c8, c9, c10, c11, c12, c13⟩ := hS2
    have hnew : SimS s0 V n 2 (secRest (M1 207) (R1 0 3 + M1 207 2)) (M1 209) (M1 211) (R1 0 0) (R1 0 1) (R1 0 2) (R1 1) (R1 2) (R1 3) (R1 4) (upd (R1 6) 2 0) (upd (R1 7) 2 (R1 0 3 + R1 0 1)) (R1 8) :=
      ⟨c0, c1, c2, c3, c4, c5, c6, c7, c8, c9, fun _ => ⟨rfl, fun _ => by show R1 0 3 + M1 207 2 = R1 0 3 + R1 0 1; rw [c2], fun z => absurd z (show ¬ (0 : Int32) = 1 by decide)⟩, c11, c12, c13⟩
    exact ⟨hA, hD, hB, hP, hJ, hV, hS1, hnew, hM, hTo, Or.inl a5⟩
end ZSIMM
