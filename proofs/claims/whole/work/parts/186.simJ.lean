/-! restart -/
theorem serial_ne (s0 : Int32) {n : Nat} (h : 1 ≤ n) : s0 + ni (n - 1) ≠ s0 + ni n := by
  intro q
  have h1 : ni (n - 1) = ni n := by
    have := congrArg (fun x => -s0 + x) q
    simpa [← Int32.add_assoc, Int32.add_left_neg] using this
  have h2 : ni n = ni (n - 1) + 1 := by
    rw [ni_succ, show n - 1 + 1 = n by omega]
  rw [h2] at h1
  have h3 := congrArg (fun x => x - ni (n - 1)) h1
  simp [Int32.sub_self, Int32.add_comm] at h3
section ZSIMJ
variable {A B : Nat} {X Y : zh_T} {M F I J G K : Nat → Nat → Int32} {w e : Nat → Nat} {R : Nat → Nat → Int32} {N n c jc pd : Nat} {s0 : Int32} {V : Nat → Nat → Bool}
theorem k_J83_no {k : Nat} (hc : R 0 18 = ni k) (hk : k ≤ 5) (h : k = 0 ∨ R 12 (k - 1) ≠ R 3 0) : J_ZoneNodesModel_restart_83 N (zR B Y R) B = zb2 (f_ZoneNodesModel_notifyBoth N (zR B Y R) B) fun _ X38 => some (1, X38) := by
  unfold J_ZoneNodesModel_restart_83
  have z0 : zai (zR B Y R) (B + 3) 0 = some (R 3 0) := ra3 (i := 0) (by decide)
  rw [rg18, zb1_some, hc]
  by_cases h0 : k = 0
  · rw [if_pos ((ni_le0 (x := k) (by omega)).mpr h0), rck, zb1_some]
  · have h1 : R 12 (k - 1) ≠ R 3 0 := h.resolve_left h0
    rw [if_neg (fun q => h0 ((ni_le0 (x := k) (by omega)).mp q)), rr19, zb1_some, zb1_some, ni_pred (by omega), ra12 (i := k - 1) (by omega), zb1_some, rr6, zb1_some, z0, zb1_some, if_neg h1, rck, zb1_some]
theorem k_J83_yes {k : Nat} (hc : R 0 18 = ni k) (h1 : 1 ≤ k) (hk : k ≤ 5) (h : R 12 (k - 1) = R 3 0) : J_ZoneNodesModel_restart_83 N (zR B Y R) B = zb2 (f_ZoneNodesModel_install N (zR B Y R) B) fun _ X38 => some (1, X38) := by
  unfold J_ZoneNodesModel_restart_83
  have z0 : zai (zR B Y R) (B + 3) 0 = some (R 3 0) := ra3 (i := 0) (by decide)
  rw [rg18, zb1_some, hc, if_neg (fun q => absurd ((ni_le0 (x := k) (by omega)).mp q) (by omega)), rr19, zb1_some, zb1_some, ni_pred (by omega), ra12 (i := k - 1) (by omega), zb1_some, rr6, zb1_some, z0, zb1_some, if_pos h, rck, zb1_some]
theorem sim_j (h : Sim s0 V n c jc pd M F I J G K w e R) : SimJ s0 V n jc pd (M 174) J G K e (R 1 0) (R 0 18) (R 12) (R 13) (R 14) (R 15) := h.2.2.2.2.1
/-- the primary comes up -/
theorem Sim_up0 (h : Sim s0 V n c jc pd M F I J G K w e R) (hu : R 1 0 = 0) (hN : 1100 < N) : ∃ n' c' jc' M' F' e' R', n' ≤ n + 1 ∧ (zb2 (f_Primary_comeUp N (zC A X M F I J G K w e) (A + 169)) fun _ X24 => zb2 (f_ZoneNodes_notifySecondaries N X24 A) fun _ X28 => some ((1 : Int32), X28)) = some (1, zC A X M' F' I J G K w e' ) ∧
    f_ZoneNodesModel_restart N (zR B Y R) B (ni 0) = some (1, zR B Y R') ∧ Sim s0 V n' c' jc' 0 M' F' I J G K w e' R' := by
  have t1 : (mlist F I w c).filter (ofS 1) = [] := by
    rcases sim_t1 h with q | q
    · exact q
    · rw [hu] at q
      exact absurd q.1 (by decide)
  have t2 : (mlist F I w c).filter (ofS 2) = [] := by
    rcases sim_t2 h with q | q
    · exact q
    · rw [hu] at q
      exact absurd q.1 (by decide)
  obtain ⟨hA, hD, hB, hP, hJ, hV, hS1, hS2, hM, -, -⟩ := h
  have hP' := hP
  have hJ' := hJ
  obtain ⟨p1, p2, p3, p4, p5, p6, p7, p8, p9, p10, p11⟩ := hP'
  obtain ⟨j1, j2, j3, j4, -, j6, j7, j8, j9⟩ := hJ'
  have hx0 : (0 : Int32) ≤ ni 0 ∧ ni 0 ≤ 2 := by decide
  have w0 : zaz (zR B Y R) (B + 1) (ni 0) = some (R 1 0) := ra1 (i := 0) (by decide)
  have w1 : zsz (zR B Y R) (B + 1) (ni 0) 1 = some (zR B Y (zu R 1 (upd (R 1) 0 1))) := rs1 (i := 0) (by decide) (Or.inr rfl)
  have kk : f_ZoneNodesModel_restart N (zR B Y R) B (ni 0) = (if ni jc ≤ 0 then J_ZoneNodesModel_restart_83 N (zR B Y (zu R 1 (upd (R 1) 0 1))) B else zb1 (zaz (zR B Y (zu R 1 (upd (R 1) 0 1))) (B + 13) (ni jc - 1)) fun v47 => if v47 = 0 then J_ZoneNodesModel_restart_83 N (zR B Y (zu (zu R 1 (upd (R 1) 0 1)) 0 (upd (R 0) 18 (ni jc - 1)))) B else J_ZoneNodesModel_restart_83 N (zR B Y (zu R 1 (upd (R 1) 0 1))) B) := by
    unfold f_ZoneNodesModel_restart
    have e0 : zu R 1 (upd (R 1) 0 1) 0 = R 0 := rfl
    rw [k_isNode, zb1_some, if_pos hx0, if_neg n10, rr4, zb1_some, w0, zb1_some, hu, if_pos rfl, zb1_some, w1, zb1_some, if_pos (show ni 0 ≤ 0 from by decide), rg18, zb1_some, e0, j7, rr20, zb1_some, zb1_some, zb1_some, rq18, zb1_some, e0]
  have fin : ∀ (jc' : Nat) (M1 : Nat → Nat → Int32) (R1 : Nat → Nat → Int32), f_Primary_comeUp N (zC A X M F I J G K w e) (A + 169) = some ((), zC A X M1 F I J G K w e) → f_ZoneNodesModel_restart N (zR B Y R) B (ni 0) = (zb2 (f_ZoneNodesModel_notifyBoth N (zR B Y R1) B) fun _ X38 => some (1, X38)) → Sim s0 V n c jc' 0 M1 F I J G K w e R1 →
      ∃ n' c' jc' M' F' e' R', n' ≤ n + 1 ∧ (zb2 (f_Primary_comeUp N (zC A X M F I J G K w e) (A + 169)) fun _ X24 => zb2 (f_ZoneNodes_notifySecondaries N X24 A) fun _ X28 => some ((1 : Int32), X28)) = some (1, zC A X M' F' I J G K w e' ) ∧ f_ZoneNodesModel_restart N (zR B Y R) B (ni 0) = some (1, zR B Y R') ∧ Sim s0 V n' c' jc' 0 M' F' I J G K w e' R' := by
    intro jc' M1 R1 hc hr hs
    obtain ⟨c2, F2, M2, R2, a1, a2, -, -, a5⟩ := Sim_notify (N := N) (A := A) (X := X) (B := B) (Y := Y) hs (by omega)
    exact ⟨n, c2, jc', M2, F2, e, R2, by omega, by rw [hc, zb2_some, a1, zb2_some], by rw [hr, a2, zb2_some], a5⟩
  have hP1 : SimP s0 V n (upd (M 169) 8 1) (M 171) (M 173) 1 (R 0 17) (R 3 0) (R 2 0) (R 4) := ⟨rfl, Or.inr rfl, p3, p4, p5, p6, p7, p8, p9, p10, p11⟩
  have hT : ∀ {s : Nat} {f fr fi : Nat → Int32} {a b : Int32} {g : Nat → Int32}, SimT s0 V n s f fr fi a b g [] := Or.inl rfl
  by_cases h0 : jc = 0
  · subst h0
    refine fin 0 (prU M) (zu R 1 (upd (R 1) 0 1)) (s_pUp_none j6) ?_ ?_
    · rw [kk, if_pos (show ni 0 ≤ 0 from by decide), k_J83_no (k := 0) (R := zu R 1 (upd (R 1) 0 1)) j7 (by omega) (Or.inl rfl)]
    · have hJ1 : SimJ s0 V n 0 0 (M 174) J G K e 1 (R 0 18) (R 12) (R 13) (R 14) (R 15) := ⟨by omega, by omega, by omega, by omega, fun _ => rfl, j6, j7, j8, fun i hi => absurd hi (by omega)⟩
      have hV0 : SimV V (n + 0) := ⟨fun k hk => hV.1 k (by omega), fun k hk => hV.2 k (by omega)⟩
      exact ⟨hA, hD, hB, hP1, hJ1, hV0, hS1, hS2, hM, Or.inl t1, Or.inl t2⟩
  · obtain ⟨⟨e1, e2, e3, e4, e5, e6, e7⟩, -⟩ := j9 (jc - 1) (by omega)
    have hlast : ∀ i, i < jc → i + 1 < jc + (1 - pd) → R 13 i = 1 := fun i hi => (j9 i hi).2
    have hent : ∀ i, i < jc → SimE s0 V (n + pd - jc) i (J (e i)) (G (e i)) (K (e i)) (R 12) (R 13) (R 14) (R 15) := fun i hi => (j9 i hi).1
    have hni : ¬ ni jc ≤ 0 := fun q => h0 ((ni_le0 (x := jc) (by omega)).mp q)
    have w2 : zaz (zR B Y (zu R 1 (upd (R 1) 0 1))) (B + 13) (ni jc - 1) = some (R 13 (jc - 1)) := by
      rw [ni_pred (by omega), ra13 (i := jc - 1) (by omega)]
      rfl
    rw [if_neg hni, w2, zb1_some] at kk
    by_cases hpd : pd = 0
    · subst hpd
      have m1 := hlast (jc - 1) (by omega) (by omega)
      have hn : n + 0 - jc + (jc - 1) = n - 1 := by omega
      rw [hn] at e1 e2
      have hne : R 12 (jc - 1) ≠ R 3 0 := by
        rw [e2, p6]
        exact serial_ne s0 (by omega)
      rw [m1, if_neg n10] at kk
      refine fin jc (prU M) (zu R 1 (upd (R 1) 0 1)) (s_pUp_other j6 (by omega) (by omega) j8 ?_) ?_ ?_
      · rw [e1, p5, p6]
        exact serial_ne s0 (by omega)
      · rw [kk, k_J83_no (k := jc) (R := zu R 1 (upd (R 1) 0 1)) j7 (by omega) (Or.inr hne)]
      · have hJ1 : SimJ s0 V n jc 0 (M 174) J G K e 1 (R 0 18) (R 12) (R 13) (R 14) (R 15) := ⟨by omega, by omega, by omega, by omega, fun _ => rfl, j6, j7, j8, j9⟩
        exact ⟨hA, hD, hB, hP1, hJ1, hV, hS1, hS2, hM, Or.inl t1, Or.inl t2⟩
    · have hp1 : pd = 1 := by omega
      subst hp1
      have hn : n + 1 - jc + (jc - 1) = n := by omega
      rw [hn] at e1 e2
      have hs : J (e (jc - 1)) 2 = M 169 6 := by rw [e1, p5, p6]
      have hV0 : SimV V n := ⟨fun k hk => hV.1 k (by omega), fun k hk => hV.2 k (by omega)⟩
      rcases hB.2.2.1 (jc - 1) (by omega) with m | m
      · rw [m, if_pos rfl] at kk
        refine fin (jc - 1) (zu (prU M) 174 (upd (M 174) 1 (ni (jc - 1)))) (zu (zu R 1 (upd (R 1) 0 1)) 0 (upd (R 0) 18 (ni jc - 1))) (s_pUp_drop j6 (by omega) (by omega) j8 hs (by rw [e3, m])) ?_ ?_
        · rw [kk, k_J83_no (k := jc - 1) (R := zu (zu R 1 (upd (R 1) 0 1)) 0 (upd (R 0) 18 (ni jc - 1))) (ni_pred (by omega)) (by omega) ?_]
          by_cases hj1 : jc - 1 = 0
          · exact Or.inl hj1
          · refine Or.inr ?_
            obtain ⟨-, e2', -⟩ := hent (jc - 1 - 1) (by omega)
            show R 12 (jc - 1 - 1) ≠ R 3 0
            rw [e2', p6, show n + 1 - jc + (jc - 1 - 1) = n - 1 by omega]
            exact serial_ne s0 (by omega)
        · have hJ1 : SimJ s0 V n (jc - 1) 0 (upd (M 174) 1 (ni (jc - 1))) J G K e 1 (ni jc - 1) (R 12) (R 13) (R 14) (R 15) := by
            refine ⟨by omega, by omega, by omega, by omega, fun _ => rfl, upd_eq _ _ _, ni_pred (by omega), j8, fun i hi => ⟨?_, fun _ => hlast i (by omega) (by omega)⟩⟩
            rw [show n + 0 - (jc - 1) = n + 1 - jc by omega]
            exact hent i (by omega)
          exact ⟨hA, hD, hB, hP1, hJ1, hV0, hS1, hS2, hM, Or.inl t1, Or.inl t2⟩
      · rw [m, if_neg n10] at kk
        have hI : SimI s0 V n c jc (prU M) F I J G K w e (zu R 1 (upd (R 1) 0 1)) := by
          have hJ1 : SimJ s0 V n jc 1 (M 174) J G K e 0 (R 0 18) (R 12) (R 13) (R 14) (R 15) := ⟨j1, j2, j3, j4, fun q => absurd q (by decide), j6, j7, j8, j9⟩
          exact ⟨hA, hD, hB, hP1, hJ1, m, hV, hS1, hS2, hM, Or.inl t1, Or.inl t2⟩
        obtain ⟨jc', R1, k1, k2⟩ := Sim_inst (N := N) (B := B) (Y := Y) hI hN
        obtain ⟨c2, F2, M2, R2, a1, a2, -, -, a5⟩ := Sim_notify (N := N) (A := A) (X := X) (B := B) (Y := Y) k2 (by omega)
        refine ⟨n + 1, c2, jc', M2, F2, inE e jc, R2, by omega, ?_, ?_, a5⟩
        · have hcu : f_Primary_comeUp N (zC A X M F I J G K w e) (A + 169) = some ((), zC A X (inM (prU M) J G K e jc) F I J G K w (inE e jc)) := by
            rw [s_pUp_do j6 (by omega) (by omega) j8 hs (by rw [e3, m]; decide) (by omega)]
            unfold inM inE
            by_cases h5 : jc = 5
            · rw [if_pos h5, if_pos h5, if_pos h5]
              rfl
            · rw [if_neg h5, if_neg h5, if_neg h5]
          rw [hcu, zb2_some, a1, zb2_some]
        · rw [kk, k_J83_yes (k := jc) (R := zu R 1 (upd (R 1) 0 1)) j7 (by omega) (by omega) (by show R 12 (jc - 1) = R 3 0; rw [e2, p6]), k1, a2, zb2_some]
theorem Sim_up0c (h : Sim s0 V n c jc pd M F I J G K w e R) (hN : 1100 < N) : ∃ M1 F1 e1, f_Primary_comeUp N (zC A X M F I J G K w e) (A + 169) = some ((), zC A X M1 F1 I J G K w e1) := by
  obtain ⟨j1, j2, j3, j4, -, j6, j7, j8, j9⟩ := sim_j h
  by_cases h0 : jc = 0
  · subst h0
    exact ⟨_, _, _, s_pUp_none j6⟩
  · by_cases hs : J (e (jc - 1)) 2 = M 169 6
    · by_cases hm : J (e (jc - 1)) 3 = 0
      · exact ⟨_, _, _, s_pUp_drop j6 (by omega) (by omega) j8 hs hm⟩
      · have q := s_pUp_do (N := N) (A := A) (X := X) (F := F) (I := I) (w := w) (G := G) (K := K) j6 (by omega) (by omega) j8 hs hm (by omega)
        by_cases h5 : jc = 5
        · rw [if_pos h5] at q
          exact ⟨_, _, _, q⟩
        · rw [if_neg h5] at q
          exact ⟨_, _, _, q⟩
    · exact ⟨_, _, _, s_pUp_other j6 (by omega) (by omega) j8 hs⟩
theorem o_restart (h : Sim s0 V n c jc pd M F I J G K w e R) (x : Int32) (hN : 1100 < N) : ∃ r n' c' jc' pd' M' F' e' R', n' ≤ n + 1 ∧ f_ZoneNodes_restart N (zC A X M F I J G K w e) A x = some (r, zC A X M' F' I J G K w e') ∧ f_ZoneNodesModel_restart N (zR B Y R) B x = some (r, zR B Y R') ∧ Sim s0 V n' c' jc' pd' M' F' I J G K w e' R' := by
  by_cases hx : 0 ≤ x ∧ x ≤ 2
  · rcases node_cases hx with rfl | rfl | rfl
    · have hp := sim_p h
      have u0 : M 169 8 = R 1 0 := hp.1
      rcases hp.2.1 with u | u
      · obtain ⟨n1, c1, jc1, M1, F1, e1, R1, a0, a1, a2, a3⟩ := Sim_up0 (N := N) (A := A) (X := X) (B := B) (Y := Y) h u hN
        refine ⟨1, n1, c1, jc1, 0, M1, F1, e1, R1, a0, ?_, a2, a3⟩
        unfold f_ZoneNodes_restart
        rw [s_isNode, zb1_some, if_pos hx, if_neg n10, ck0, zb1_some, s_isUp0 (by rw [u0]; exact hp.2.1), zb1_some, u0, u, if_pos rfl, if_pos z00, cr0_4, zb1_some, ck169, zb1_some]
        rw [← a1]
        have hz : ∀ (o : Option (Unit × zh_T)), (∃ M1 F1 e1, o = some ((), zC A X M1 F1 I J G K w e1)) → (zb2 o fun _ X24 => zb1 (zck X24 A 8) fun _ => zb2 (f_ZoneNodes_notifySecondaries N X24 A) fun _ X28 => some ((1 : Int32), X28)) = zb2 o fun _ X24 => zb2 (f_ZoneNodes_notifySecondaries N X24 A) fun _ X28 => some ((1 : Int32), X28) := by
          rintro o ⟨M1, F1, e1, rfl⟩
          rw [zb2_some, zb2_some, ck0, zb1_some]
        exact hz _ (Sim_up0c (N := N) (A := A) (X := X) h hN)
      · refine ⟨0, n, c, jc, pd, M, F, e, R, by omega, ?_, ?_, h⟩
        · unfold f_ZoneNodes_restart
          rw [s_isNode, zb1_some, if_pos hx, if_neg n10, ck0, zb1_some, s_isUp0 (by rw [u0]; exact hp.2.1), zb1_some, u0, u, if_neg n10]
        · unfold f_ZoneNodesModel_restart
          rw [k_isNode, zb1_some, if_pos hx, if_neg n10, rr4, zb1_some, ra1 (i := 0) (by decide), zb1_some, u, if_neg n10]
    · have hp := sim_1 h
      have u0 : M 202 6 = R 1 1 := hp.2.2.2.2.1
      have u01 := hp.2.2.2.2.2.1
      have hclk : M 0 6 = R 0 3 := h.1.1
      rcases u01 with u | u
      · have t : (mlist F I w c).filter (ofS 1) = [] := by
          rcases sim_t1 h with q | q
          · exact q
          · rw [u0, u] at q
            exact absurd q.2.1 (by decide)
        have kr : f_ZoneNodesModel_rest N (zR B Y (zu R 1 (upd (R 1) 1 1))) B (ni 1) 1 = some ((), zR B Y (zu (zu (zu R 1 (upd (R 1) 1 1)) 6 (upd (R 6) 1 0)) 7 (upd (R 7) 1 (R 0 3 + 1)))) := k_rest (by decide) 1
        have ks : zsi (zR B Y (zu (zu (zu R 1 (upd (R 1) 1 1)) 6 (upd (R 6) 1 0)) 7 (upd (R 7) 1 (R 0 3 + 1)))) (B + 8) (ni 1) (R 0 3 + R 0 2) = some (zR B Y (zu (zu (zu (zu R 1 (upd (R 1) 1 1)) 6 (upd (R 6) 1 0)) 7 (upd (R 7) 1 (R 0 3 + 1))) 8 (upd (R 8) 1 (R 0 3 + R 0 2)))) := rs8 (i := 1) (by decide)
        refine ⟨1, n, c, jc, pd, zu M 202 (secUp (M 202) (R 0 3)), F, e, zu (zu (zu (zu R 1 (upd (R 1) 1 1)) 6 (upd (R 6) 1 0)) 7 (upd (R 7) 1 (R 0 3 + 1))) 8 (upd (R 8) 1 (R 0 3 + R 0 2)), by omega, ?_, ?_, ?_⟩
        · unfold f_ZoneNodes_restart
          rw [s_isNode, zb1_some, if_pos hx, if_neg n10, ck0, zb1_some, s_isUp1 (by rw [u0]; exact Or.inl u), zb1_some, u0, u, if_pos rfl, if_neg n1z, cr0_5, zb1_some, show ni 1 - 1 = ni 0 from rfl, x_ar0, zb1_some, cg0_6, zb1_some, hclk, ck202, zb1_some, s_comeUp (Or.inl rfl), zb2_some]
        · unfold f_ZoneNodesModel_restart
          rw [k_isNode, zb1_some, if_pos hx, if_neg n10, rr4, zb1_some, ra1 (i := 1) (by decide), zb1_some, u, if_pos rfl, zb1_some, rs1 (i := 1) (by decide) (Or.inr rfl), zb1_some, if_neg (show ¬ ni 1 ≤ 0 by decide), rck, zb1_some, kr, zb2_some, rr11, zb1_some, rg3, zb1_some, rg2, zb1_some]
          show zb1 (zsi (zR B Y (zu (zu (zu R 1 (upd (R 1) 1 1)) 6 (upd (R 6) 1 0)) 7 (upd (R 7) 1 (R 0 3 + 1)))) (B + 8) (ni 1) (R 0 3 + R 0 2)) (fun X64 => some ((1 : Int32), X64)) = _
          rw [ks, zb1_some]
        · obtain ⟨hA, hD, hB, hP, hJ, hV, hS1, hS2, hM, hT1, hT2⟩ := h
          obtain ⟨c0, c1, c2, c3, c4, c5, c6, c7, c8, c9, c10, c11, c12, c13⟩ := hS1
          have hnew : SimS s0 V n 1 (secUp (M 202) (R 0 3)) (M 204) (M 206) (R 0 0) (R 0 1) (R 0 2) (upd (R 1) 1 1) (R 2) (R 3) (R 4) (upd (R 6) 1 0) (upd (R 7) 1 (R 0 3 + 1)) (upd (R 8) 1 (R 0 3 + R 0 2)) :=
            ⟨c0, c1, c2, c3, rfl, Or.inr rfl, c6, c7, c8, by show R 0 3 + M 202 3 = R 0 3 + R 0 2; rw [c3], fun _ => ⟨rfl, fun _ => rfl, fun z => absurd z (show ¬ (0 : Int32) = 1 by decide)⟩, c11, c12, c13⟩
          exact ⟨hA, hD, hB, hP, hJ, hV, hnew, hS2, hM, Or.inl t, hT2⟩
      · refine ⟨0, n, c, jc, pd, M, F, e, R, by omega, ?_, ?_, h⟩
        · unfold f_ZoneNodes_restart
          rw [s_isNode, zb1_some, if_pos hx, if_neg n10, ck0, zb1_some, s_isUp1 (by rw [u0]; exact Or.inr u), zb1_some, u0, u, if_neg n10]
        · unfold f_ZoneNodesModel_restart
          rw [k_isNode, zb1_some, if_pos hx, if_neg n10, rr4, zb1_some, ra1 (i := 1) (by decide), zb1_some, u, if_neg n10]
    · have hp := sim_2 h
      have u0 : M 207 6 = R 1 2 := hp.2.2.2.2.1
      have u01 := hp.2.2.2.2.2.1
      have hclk : M 0 6 = R 0 3 := h.1.1
      rcases u01 with u | u
      · have t : (mlist F I w c).filter (ofS 2) = [] := by
          rcases sim_t2 h with q | q
          · exact q
          · rw [u0, u] at q
            exact absurd q.2.1 (by decide)
        have kr : f_ZoneNodesModel_rest N (zR B Y (zu R 1 (upd (R 1) 2 1))) B (ni 2) 1 = some ((), zR B Y (zu (zu (zu R 1 (upd (R 1) 2 1)) 6 (upd (R 6) 2 0)) 7 (upd (R 7) 2 (R 0 3 + 1)))) := k_rest (by decide) 1
        have ks : zsi (zR B Y (zu (zu (zu R 1 (upd (R 1) 2 1)) 6 (upd (R 6) 2 0)) 7 (upd (R 7) 2 (R 0 3 + 1)))) (B + 8) (ni 2) (R 0 3 + R 0 2) = some (zR B Y (zu (zu (zu (zu R 1 (upd (R 1) 2 1)) 6 (upd (R 6) 2 0)) 7 (upd (R 7) 2 (R 0 3 + 1))) 8 (upd (R 8) 2 (R 0 3 + R 0 2)))) := rs8 (i := 2) (by decide)
        refine ⟨1, n, c, jc, pd, zu M 207 (secUp (M 207) (R 0 3)), F, e, zu (zu (zu (zu R 1 (upd (R 1) 2 1)) 6 (upd (R 6) 2 0)) 7 (upd (R 7) 2 (R 0 3 + 1))) 8 (upd (R 8) 2 (R 0 3 + R 0 2)), by omega, ?_, ?_, ?_⟩
        · unfold f_ZoneNodes_restart
          rw [s_isNode, zb1_some, if_pos hx, if_neg n10, ck0, zb1_some, s_isUp2 (by rw [u0]; exact Or.inl u), zb1_some, u0, u, if_pos rfl, if_neg n2z, cr0_5, zb1_some, show ni 2 - 1 = ni 1 from rfl, x_ar1, zb1_some, cg0_6, zb1_some, hclk, ck207, zb1_some, s_comeUp (Or.inr rfl), zb2_some]
        · unfold f_ZoneNodesModel_restart
          rw [k_isNode, zb1_some, if_pos hx, if_neg n10, rr4, zb1_some, ra1 (i := 2) (by decide), zb1_some, u, if_pos rfl, zb1_some, rs1 (i := 2) (by decide) (Or.inr rfl), zb1_some, if_neg (show ¬ ni 2 ≤ 0 by decide), rck, zb1_some, kr, zb2_some, rr11, zb1_some, rg3, zb1_some, rg2, zb1_some]
          show zb1 (zsi (zR B Y (zu (zu (zu R 1 (upd (R 1) 2 1)) 6 (upd (R 6) 2 0)) 7 (upd (R 7) 2 (R 0 3 + 1)))) (B + 8) (ni 2) (R 0 3 + R 0 2)) (fun X64 => some ((1 : Int32), X64)) = _
          rw [ks, zb1_some]
        · obtain ⟨hA, hD, hB, hP, hJ, hV, hS1, hS2, hM, hT1, hT2⟩ := h
          obtain ⟨c0, c1, c2, c3, c4, c5, c6, c7, c8, c9, c10, c11, c12, c13⟩ := hS2
          have hnew : SimS s0 V n 2 (secUp (M 207) (R 0 3)) (M 209) (M 211) (R 0 0) (R 0 1) (R 0 2) (upd (R 1) 2 1) (R 2) (R 3) (R 4) (upd (R 6) 2 0) (upd (R 7) 2 (R 0 3 + 1)) (upd (R 8) 2 (R 0 3 + R 0 2)) :=
            ⟨c0, c1, c2, c3, rfl, Or.inr rfl, c6, c7, c8, by show R 0 3 + M 207 3 = R 0 3 + R 0 2; rw [c3], fun _ => ⟨rfl, fun _ => rfl, fun z => absurd z (show ¬ (0 : Int32) = 1 by decide)⟩, c11, c12, c13⟩
          exact ⟨hA, hD, hB, hP, hJ, hV, hS1, hnew, hM, hT1, Or.inl t⟩
      · refine ⟨0, n, c, jc, pd, M, F, e, R, by omega, ?_, ?_, h⟩
        · unfold f_ZoneNodes_restart
          rw [s_isNode, zb1_some, if_pos hx, if_neg n10, ck0, zb1_some, s_isUp2 (by rw [u0]; exact Or.inr u), zb1_some, u0, u, if_neg n10]
        · unfold f_ZoneNodesModel_restart
          rw [k_isNode, zb1_some, if_pos hx, if_neg n10, rr4, zb1_some, ra1 (i := 2) (by decide), zb1_some, u, if_neg n10]
  · refine ⟨0, n, c, jc, pd, M, F, e, R, by omega, ?_, ?_, h⟩
    · unfold f_ZoneNodes_restart
      rw [s_isNode, zb1_some, if_neg hx, if_pos rfl]
    · unfold f_ZoneNodesModel_restart
      rw [k_isNode, zb1_some, if_neg hx, if_pos rfl]
end ZSIMJ
