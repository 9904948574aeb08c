/-! deliver: NOTIFY and TELL at a secondary -/
section ZSIML
variable {A B : Nat} {X Y : zh_T} {M F I J G K : Nat → Nat → Int32} {w e : Nat → Nat} {R : Nat → Nat → Int32} {N n c jc pd : Nat} {s0 : Int32} {V : Nat → Nat → Bool}
/-- a FETCH is sent, on both sides -/
theorem simM_fetch {M6 : Nat → Int32} {rm : Int32} (h : SimM F I w c M6 rm (rlist R c)) {s hs sr : Int32} (hss : s = 1 ∨ s = 2) (hc : c < 80) :
    SimM (zu F (w c) (upd (putM (F (w c)) 4 s sr) 3 hs)) I w (c + 1) (upd M6 1 (ni (c + 1))) (ni (c + 1)) (rlist (Rapp R c (4, s, sr, 0, 0, hs, 0)) (c + 1)) ∧
    (∀ x : Int32, x ≠ s → (mlist (zu F (w c) (upd (putM (F (w c)) 4 s sr) 3 hs)) I w (c + 1)).filter (ofS x) = (mlist F I w c).filter (ofS x)) ∧
    (mlist (zu F (w c) (upd (putM (F (w c)) 4 s sr) 3 hs)) I w (c + 1)).filter (ofS s) = (mlist F I w c).filter (ofS s) ++ [(upd (putM (F (w c)) 4 s sr) 3 hs, I (w c))] := by
  have hw := h.2.2.2.1
  have hon : onS (upd (putM (F (w c)) 4 s sr) 3 hs, I (w c)) = true := rfl
  have hsec : (upd (putM (F (w c)) 4 s sr) 3 hs, I (w c)).1 2 = s := rfl
  have hm : mrel (upd (putM (F (w c)) 4 s sr) 3 hs, I (w c)) (4, s, sr, 0, 0, hs, 0) := by
    refine ⟨rfl, rfl, rfl, Or.inr (Or.inr (Or.inr (Or.inl rfl))), hss, fun _ => rfl, fun z => ?_, fun _ => ⟨rfl, rfl⟩⟩
    exact absurd z (show ¬ (4 : Int32) = 5 by decide)
  have hml := mlist_putF (F := F) (I := I) hw hc (upd (putM (F (w c)) 4 s sr) 3 hs)
  refine ⟨simM_of (by omega) (upd_eq _ _ _) rfl hw ?_ ?_, fun x hx => ?_, ?_⟩
  · rw [hml, Rapp_list]
    exact rel2_app _ _ (simM_rel h) ⟨hm, trivial⟩
  · rw [hml, List.countP_append, List.countP_cons, hon]
    exact h.2.2.2.2.2.2
  · have f1 : ofS x (upd (putM (F (w c)) 4 s sr) 3 hs, I (w c)) = false := by
      unfold ofS
      rw [hon, hsec, decide_eq_false (fun q => hx q.symm)]
      rfl
    rw [hml, List.filter_append, List.filter_cons_of_neg (by rw [f1]; decide), List.filter_nil, List.append_nil]
  · have f1 : ofS s (upd (putM (F (w c)) 4 s sr) 3 hs, I (w c)) = true := by
      unfold ofS
      rw [hon, hsec, decide_eq_true rfl]
      rfl
    rw [hml, List.filter_append, List.filter_cons_of_pos f1, List.filter_nil]
/-- secondary 1 hears a NOTIFY -/
theorem Sim_hear1 (h : Sim s0 V n c jc pd M F I J G K w e R) (hu : R 1 1 = 1) (told : Int32) (hN : 300 < N) : ∃ c' F' M' R', f_Secondary_hearNotify N (zC A X M F I J G K w e) (A + 202) told (R 0 3) (A + 6) = some ((), zC A X M' F' I J G K w e) ∧
    (∀ g : zh_T → Option (Int32 × zh_T), (zb1 (zai (zR B Y R) (B + 6) (ni 1)) fun v86 => if v86 = 0 then zb1 (zck (zR B Y R) B 9) fun _ => zb1 (f_ZoneNodesModel_isNews N (zR B Y R) B (ni 1) told) fun v91 => if v91 = 0 then g (zR B Y R) else zb1 (zck (zR B Y R) B 9) fun _ => zb2 (f_ZoneNodesModel_ask N (zR B Y R) B (ni 1)) fun _ X96 => g X96 else g (zR B Y R)) = g (zR B Y R')) ∧
    Sim s0 V n c' jc pd M' F' I J G K w e R' := by
  obtain ⟨-, -, -, -, -, -, c6, -, c8, -, c10, -⟩ := sim_1 h
  obtain ⟨p9, -, -⟩ := c10 hu
  unfold f_Secondary_hearNotify
  rw [cg202_9, zb1_some, p9]
  by_cases h9 : R 6 1 = 0
  · rw [if_pos h9, ck202, zb1_some, s_lacks (Or.inl rfl), zb1_some, c6, c8]
    have hS : (mlist F I w c).filter (ofS 1) = [] := by
      rcases sim_t1 h with q | ⟨-, -, q, -⟩
      · exact q
      · rw [p9, h9] at q
        exact absurd q (by decide)
    by_cases hn : R 2 1 = 0 ∨ ¬ told - R 3 1 ≤ 0
    · obtain ⟨c1, F1, M1, R1, a1, a2, a3, -, a5⟩ := Sim_ask1 (N := N) (A := A) (X := X) (B := B) (Y := Y) h hS hN
      refine ⟨c1, F1, M1, R1, ?_, fun g => ?_, a5⟩
      · rw [if_pos hn, if_neg n10, zb1_some, a1, zb2_some]
      · rw [ra6 (i := 1) (by decide), zb1_some, if_pos h9, rck, zb1_some, k_isNews (by decide), zb1_some, if_pos hn, if_neg n10, zb1_some, a2, zb2_some]
    · refine ⟨c, F, M, R, ?_, fun g => ?_, h⟩
      · rw [if_neg hn, if_pos rfl]
      · rw [ra6 (i := 1) (by decide), zb1_some, if_pos h9, rck, zb1_some, k_isNews (by decide), zb1_some, if_neg hn, if_pos rfl]
  · refine ⟨c, F, M, R, ?_, fun g => ?_, h⟩
    · rw [if_neg h9]
    · rw [ra6 (i := 1) (by decide), zb1_some, if_neg h9]
/-- secondary 1 hears a TELL -/
theorem Sim_tell1 (h : Sim s0 V n c jc pd M F I J G K w e R) (hu : R 1 1 = 1) (told : Int32) (hN : 300 < N) : ∃ c' F' M' R', f_Secondary_hearTell N (zC A X M F I J G K w e) (A + 202) told (R 1 0) (R 0 3) (A + 6) = some ((), zC A X M' F' I J G K w e) ∧
    f_ZoneNodesModel_takeTell N (zR B Y R) B (ni 1) told = some ((), zR B Y R') ∧ Sim s0 V n c' jc pd M' F' I J G K w e R' := by
  have hh := h
  obtain ⟨c0, c1, c2, c3, c4, c5, c6, c7, c8, c9, c10, c11, c12, c13⟩ := sim_1 h
  obtain ⟨p9, -, -⟩ := c10 hu
  unfold f_Secondary_hearTell f_ZoneNodesModel_takeTell
  rw [cg202_9, zb1_some, p9, rr9, zb1_some, ra6 (i := 1) (by decide), zb1_some]
  by_cases h9 : R 6 1 = 1
  · rw [if_pos h9, if_pos h9, ck202, zb1_some, s_lacks (Or.inl rfl), zb1_some, c6, c8, rck, zb1_some, k_isNews (by decide)]
    simp only [zb1_some]
    have hS : (mlist F I w c).filter (ofS 1) = [] := by
      rcases sim_t1 h with q | ⟨-, -, q, -⟩
      · exact q
      · rw [p9, h9] at q
        exact absurd q (by decide)
    obtain ⟨hA, hD, hB, hP, hJ, hV, hS1, hS2, hM, hT1, hT2⟩ := h
    by_cases hn : R 2 1 = 0 ∨ ¬ told - R 3 1 ≤ 0
    · rw [if_pos hn, if_neg n10, if_neg n10, rr4, zb1_some, show zaz (zR B Y R) (B + 1) 0 = some (R 1 0) from ra1 (i := 0) (by decide), zb1_some]
      by_cases hp : R 1 0 = 0
      · rw [if_pos hp, if_pos hp, cg202_2, zb1_some, s_rest (Or.inl rfl), zb2_some, rg1, zb1_some, k_rest (by decide), zb2_some]
        have hnew : SimS s0 V n 1 (secRest (M 202) (R 0 3 + M 202 2)) (M 204) (M 206) (R 0 0) (R 0 1) (R 0 2) (R 1) (R 2) (R 3) (R 4) (upd (R 6) 1 0) (upd (R 7) 1 (R 0 3 + R 0 1)) (R 8) :=
          ⟨c0, c1, c2, c3, c4, c5, c6, c7, c8, c9, fun _ => ⟨rfl, fun _ => by show R 0 3 + M 202 2 = R 0 3 + R 0 1; rw [c2], fun z => absurd z (show ¬ (0 : Int32) = 1 by decide)⟩, c11, c12, c13⟩
        exact ⟨c, F, _, _, rfl, rfl, hA, hD, hB, hP, hJ, hV, hnew, hS2, hM, Or.inl hS, hT2⟩
      · have hup : R 1 0 = 1 := hP.2.1.resolve_left hp
        have h80 : c < 80 := by
          have e1 := len_split (mlist F I w c) (rel2_sec _ _ (simM_rel hM))
          have e2 := hM.2.2.2.2.2.2
          have e3 := simT_len hT2
          rw [mlist_len, hS] at e1
          have e4 : ([] : List zMsg).length = 0 := rfl
          omega
        have hM' := hM
        obtain ⟨m1, m2, m3, m4, -⟩ := hM'
        obtain ⟨q1, q2, q3⟩ := simM_fetch (R := R) (s := 1) (hs := R 2 1) (sr := R 3 1) hM (Or.inl rfl) h80
        rw [hS, List.nil_append] at q3
        have hfr := Rapp_fr (R := R) (c := c) (m := (4, 1, R 3 1, 0, 0, R 2 1, 0)) hB.2.2.2.2.2.1 hB.2.2.2.2.2.2 c7 (Or.inl rfl)
        have h6 : Rapp R c (4, 1, R 3 1, 0, 0, R 2 1, 0) 6 = R 6 := hfr.1 6 (by decide) (by decide)
        have hap : f_ZoneNodesModel_append N (zR B Y R) B 4 (ni 1) (R 3 1) 0 0 (R 2 1) 0 = some ((), zR B Y (Rapp R c (4, 1, R 3 1, 0, 0, R 2 1, 0))) := k_append m3 (by omega) _ _ _ _ _ _ _ c7 (Or.inl rfl)
        rw [if_neg hp, if_neg hp, cg202_0, zb1_some, cg202_7, zb1_some, cg202_8, zb1_some, ck6, zb1_some, c0, c6, c8, s_sendFetch m2 h80 m4 _ _ _ c7, zb2_some, cp202_9, zb1_some]
        rw [rr6, zb1_some, ra3 (i := 1) (by decide), zb1_some, rr5, zb1_some, ra2 (i := 1) (by decide), zb1_some, hap, zb2_some, rr9, zb1_some, rs6 (i := 1) (by decide), zb1_some]
        refine ⟨c + 1, _, _, _, rfl, rfl, ?_⟩
        obtain ⟨b1, b2, b3, b4, b5, -, -⟩ := hB
        have hnew : SimS s0 V n 1 (upd (M 202) 9 2) (M 204) (M 206) (R 0 0) (R 0 1) (R 0 2) (R 1) (R 2) (R 3) (R 4) (upd (R 6) 1 2) (R 7) (R 8) :=
          ⟨c0, c1, c2, c3, c4, c5, c6, c7, c8, c9, fun _ => ⟨rfl, fun z => absurd z (show ¬ (2 : Int32) = 0 by decide), fun z => absurd z (show ¬ (2 : Int32) = 1 by decide)⟩, c11, c12, c13⟩
        have hT : SimT s0 V n 1 (upd (M 202) 9 2) (M 204) (M 206) (R 1 0) (upd (R 6) 1 2 1) (R 5) [(upd (putM (F (w c)) 4 1 (R 3 1)) 3 (R 2 1), I (w c))] :=
          Or.inr ⟨hup, c4.trans hu, rfl, rfl, Or.inl ⟨_, rfl, rfl, c6.symm, c8.symm⟩⟩
        have hT' : SimT s0 V n 1 (upd (M 202) 9 2) (M 204) (M 206) (R 1 0) (upd (R 6) 1 2 1) (R 5) ((mlist (zu F (w c) (upd (putM (F (w c)) 4 1 (R 3 1)) 3 (R 2 1))) I w (c + 1)).filter (ofS 1)) := by
          rw [q3]
          exact hT
        have hTo : SimT s0 V n 2 (M 207) (M 209) (M 211) (R 1 0) (R 6 2) (R 5) ((mlist (zu F (w c) (upd (putM (F (w c)) 4 1 (R 3 1)) 3 (R 2 1))) I w (c + 1)).filter (ofS 2)) := by
          rw [q2 2 (by decide)]
          exact hT2
        exact ⟨hA, hD, ⟨b1, b2, b3, b4, b5, hfr.2.2.1, hfr.2.2.2⟩, hP, hJ, hV, hnew, hS2, q1, hT', hTo⟩
    · rw [if_neg hn, if_pos rfl, s_refreshed (Or.inl rfl), zb2_some, if_pos rfl, k_refreshed (by decide), zb2_some]
      have hnew : SimS s0 V n 1 (secRefr (M 202) (R 0 3)) (M 204) (M 206) (R 0 0) (R 0 1) (R 0 2) (R 1) (R 2) (R 3) (R 4) (upd (R 6) 1 0) (upd (R 7) 1 (R 0 3 + R 0 0)) (upd (R 8) 1 (R 0 3 + R 0 2)) :=
        ⟨c0, c1, c2, c3, c4, c5, c6, c7, c8, by show R 0 3 + M 202 3 = R 0 3 + R 0 2; rw [c3], fun _ => ⟨rfl, fun _ => by show R 0 3 + M 202 1 = R 0 3 + R 0 0; rw [c1], fun z => absurd z (show ¬ (0 : Int32) = 1 by decide)⟩, c11, c12, c13⟩
      exact ⟨c, F, _, _, rfl, rfl, hA, hD, hB, hP, hJ, hV, hnew, hS2, hM, Or.inl hS, hT2⟩
  · rw [if_neg h9, if_neg h9]
    exact ⟨c, F, M, R, rfl, rfl, h⟩
/-- secondary 2 hears a NOTIFY -/
theorem Sim_hear2 (h : Sim s0 V n c jc pd M F I J G K w e R) (hu : R 1 2 = 1) (told : Int32) (hN : 300 < N) : ∃ c' F' M' R', f_Secondary_hearNotify N (zC A X M F I J G K w e) (A + 207) told (R 0 3) (A + 6) = some ((), zC A X M' F' I J G K w e) ∧
    (∀ g : zh_T → Option (Int32 × zh_T), (zb1 (zai (zR B Y R) (B + 6) (ni 2)) fun v86 => if v86 = 0 then zb1 (zck (zR B Y R) B 9) fun _ => zb1 (f_ZoneNodesModel_isNews N (zR B Y R) B (ni 2) told) fun v91 => if v91 = 0 then g (zR B Y R) else zb1 (zck (zR B Y R) B 9) fun _ => zb2 (f_ZoneNodesModel_ask N (zR B Y R) B (ni 2)) fun _ X96 => g X96 else g (zR B Y R)) = g (zR B Y R')) ∧
    Sim s0 V n c' jc pd M' F' I J G K w e R' := by
  obtain ⟨-, -, -, -, -, -, c6, -, c8, -, c10, -⟩ := sim_2 h
  obtain ⟨p9, -, -⟩ := c10 hu
  unfold f_Secondary_hearNotify
  rw [cg207_9, zb1_some, p9]
  by_cases h9 : R 6 2 = 0
  · rw [if_pos h9, ck207, zb1_some, s_lacks (Or.inr rfl), zb1_some, c6, c8]
    have hS : (mlist F I w c).filter (ofS 2) = [] := by
      rcases sim_t2 h with q | ⟨-, -, q, -⟩
      · exact q
      · rw [p9, h9] at q
        exact absurd q (by decide)
    by_cases hn : R 2 2 = 0 ∨ ¬ told - R 3 2 ≤ 0
    · obtain ⟨c1, F1, M1, R1, a1, a2, a3, -, a5⟩ := Sim_ask2 (N := N) (A := A) (X := X) (B := B) (Y := Y) h hS hN
      refine ⟨c1, F1, M1, R1, ?_, fun g => ?_, a5⟩
      · rw [if_pos hn, if_neg n10, zb1_some, a1, zb2_some]
      · rw [ra6 (i := 2) (by decide), zb1_some, if_pos h9, rck, zb1_some, k_isNews (by decide), zb1_some, if_pos hn, if_neg n10, zb1_some, a2, zb2_some]
    · refine ⟨c, F, M, R, ?_, fun g => ?_, h⟩
      · rw [if_neg hn, if_pos rfl]
      · rw [ra6 (i := 2) (by decide), zb1_some, if_pos h9, rck, zb1_some, k_isNews (by decide), zb1_some, if_neg hn, if_pos rfl]
  · refine ⟨c, F, M, R, ?_, fun g => ?_, h⟩
    · rw [if_neg h9]
    · rw [ra6 (i := 2) (by decide), zb1_some, if_neg h9]
/-- secondary 2 hears a TELL -/
theorem Sim_tell2 (h : Sim s0 V n c jc pd M F I J G K w e R) (hu : R 1 2 = 1) (told : Int32) (hN : 300 < N) : ∃ c' F' M' R', f_Secondary_hearTell N (zC A X M F I J G K w e) (A + 207) told (R 1 0) (R 0 3) (A + 6) = some ((), zC A X M' F' I J G K w e) ∧
    f_ZoneNodesModel_takeTell N (zR B Y R) B (ni 2) told = some ((), zR B Y R') ∧ Sim s0 V n c' jc pd M' F' I J G K w e R' := by
  have hh := h
  obtain ⟨c0, c1, c2, c3, c4, c5, c6, c7, c8, c9, c10, c11, c12, c13⟩ := sim_2 h
  obtain ⟨p9, -, -⟩ := c10 hu
  unfold f_Secondary_hearTell f_ZoneNodesModel_takeTell
  rw [cg207_9, zb1_some, p9, rr9, zb1_some, ra6 (i := 2) (by decide), zb1_some]
  by_cases h9 : R 6 2 = 1
  · rw [if_pos h9, if_pos h9, ck207, zb1_some, s_lacks (Or.inr rfl), zb1_some, c6, c8, rck, zb1_some, k_isNews (by decide)]
    simp only [zb1_some]
    have hS : (mlist F I w c).filter (ofS 2) = [] := by
      rcases sim_t2 h with q | ⟨-, -, q, -⟩
      · exact q
      · rw [p9, h9] at q
        exact absurd q (by decide)
    obtain ⟨hA, hD, hB, hP, hJ, hV, hS1, hS2, hM, hT1, hT2⟩ := h
    by_cases hn : R 2 2 = 0 ∨ ¬ told - R 3 2 ≤ 0
    · rw [if_pos hn, if_neg n10, if_neg n10, rr4, zb1_some, show zaz (zR B Y R) (B + 1) 0 = some (R 1 0) from ra1 (i := 0) (by decide), zb1_some]
      by_cases hp : R 1 0 = 0
      · rw [if_pos hp, if_pos hp, cg207_2, zb1_some, s_rest (Or.inr rfl), zb2_some, rg1, zb1_some, k_rest (by decide), zb2_some]
        have hnew : SimS s0 V n 2 (secRest (M 207) (R 0 3 + M 207 2)) (M 209) (M 211) (R 0 0) (R 0 1) (R 0 2) (R 1) (R 2) (R 3) (R 4) (upd (R 6) 2 0) (upd (R 7) 2 (R 0 3 + R 0 1)) (R 8) :=
          ⟨c0, c1, c2, c3, c4, c5, c6, c7, c8, c9, fun _ => ⟨rfl, fun _ => by show R 0 3 + M 207 2 = R 0 3 + R 0 1; rw [c2], fun z => absurd z (show ¬ (0 : Int32) = 1 by decide)⟩, c11, c12, c13⟩
        exact ⟨c, F, _, _, rfl, rfl, hA, hD, hB, hP, hJ, hV, hS1, hnew, hM, hT1, Or.inl hS⟩
      · have hup : R 1 0 = 1 := hP.2.1.resolve_left hp
        have h80 : c < 80 := by
          have e1 := len_split (mlist F I w c) (rel2_sec _ _ (simM_rel hM))
          have e2 := hM.2.2.2.2.2.2
          have e3 := simT_len hT1
          rw [mlist_len, hS] at e1
          have e4 : ([] : List zMsg).length = 0 := rfl
          omega
        have hM' := hM
        obtain ⟨m1, m2, m3, m4, -⟩ := hM'
        obtain ⟨q1, q2, q3⟩ := simM_fetch (R := R) (s := 2) (hs := R 2 2) (sr := R 3 2) hM (Or.inr rfl) h80
        rw [hS, List.nil_append] at q3
        have hfr := Rapp_fr (R := R) (c := c) (m := (4, 2, R 3 2, 0, 0, R 2 2, 0)) hB.2.2.2.2.2.1 hB.2.2.2.2.2.2 c7 (Or.inl rfl)
        have h6 : Rapp R c (4, 2, R 3 2, 0, 0, R 2 2, 0) 6 = R 6 := hfr.1 6 (by decide) (by decide)
        have hap : f_ZoneNodesModel_append N (zR B Y R) B 4 (ni 2) (R 3 2) 0 0 (R 2 2) 0 = some ((), zR B Y (Rapp R c (4, 2, R 3 2, 0, 0, R 2 2, 0))) := k_append m3 (by omega) _ _ _ _ _ _ _ c7 (Or.inl rfl)
        rw [if_neg hp, if_neg hp, cg207_0, zb1_some, cg207_7, zb1_some, cg207_8, zb1_some, ck6, zb1_some, c0, c6, c8, s_sendFetch m2 h80 m4 _ _ _ c7, zb2_some, cp207_9, zb1_some]
        rw [rr6, zb1_some, ra3 (i := 2) (by decide), zb1_some, rr5, zb1_some, ra2 (i := 2) (by decide), zb1_some, hap, zb2_some, rr9, zb1_some, rs6 (i := 2) (by decide), zb1_some]
        refine ⟨c + 1, _, _, _, rfl, rfl, ?_⟩
        obtain ⟨b1, b2, b3, b4, b5, -, -⟩ := hB
        have hnew : SimS s0 V n 2 (upd (M 207) 9 2) (M 209) (M 211) (R 0 0) (R 0 1) (R 0 2) (R 1) (R 2) (R 3) (R 4) (upd (R 6) 2 2) (R 7) (R 8) :=
          ⟨c0, c1, c2, c3, c4, c5, c6, c7, c8, c9, fun _ => ⟨rfl, fun z => absurd z (show ¬ (2 : Int32) = 0 by decide), fun z => absurd z (show ¬ (2 : Int32) = 1 by decide)⟩, c11, c12, c13⟩
        have hT : SimT s0 V n 2 (upd (M 207) 9 2) (M 209) (M 211) (R 1 0) (upd (R 6) 2 2 2) (R 5) [(upd (putM (F (w c)) 4 2 (R 3 2)) 3 (R 2 2), I (w c))] :=
          Or.inr ⟨hup, c4.trans hu, rfl, rfl, Or.inl ⟨_, rfl, rfl, c6.symm, c8.symm⟩⟩
        have hT' : SimT s0 V n 2 (upd (M 207) 9 2) (M 209) (M 211) (R 1 0) (upd (R 6) 2 2 2) (R 5) ((mlist (zu F (w c) (upd (putM (F (w c)) 4 2 (R 3 2)) 3 (R 2 2))) I w (c + 1)).filter (ofS 2)) := by
          rw [q3]
          exact hT
        have hTo : SimT s0 V n 1 (M 202) (M 204) (M 206) (R 1 0) (R 6 1) (R 5) ((mlist (zu F (w c) (upd (putM (F (w c)) 4 2 (R 3 2)) 3 (R 2 2))) I w (c + 1)).filter (ofS 1)) := by
          rw [q2 1 (by decide)]
          exact hT1
        exact ⟨hA, hD, ⟨b1, b2, b3, b4, b5, hfr.2.2.1, hfr.2.2.2⟩, hP, hJ, hV, hS1, hnew, q1, hTo, hT'⟩
    · rw [if_neg hn, if_pos rfl, s_refreshed (Or.inr rfl), zb2_some, if_pos rfl, k_refreshed (by decide), zb2_some]
      have hnew : SimS s0 V n 2 (secRefr (M 207) (R 0 3)) (M 209) (M 211) (R 0 0) (R 0 1) (R 0 2) (R 1) (R 2) (R 3) (R 4) (upd (R 6) 2 0) (upd (R 7) 2 (R 0 3 + R 0 0)) (upd (R 8) 2 (R 0 3 + R 0 2)) :=
        ⟨c0, c1, c2, c3, c4, c5, c6, c7, c8, by show R 0 3 + M 207 3 = R 0 3 + R 0 2; rw [c3], fun _ => ⟨rfl, fun _ => by show R 0 3 + M 207 1 = R 0 3 + R 0 0; rw [c1], fun z => absurd z (show ¬ (0 : Int32) = 1 by decide)⟩, c11, c12, c13⟩
      exact ⟨c, F, _, _, rfl, rfl, hA, hD, hB, hP, hJ, hV, hS1, hnew, hM, hT1, Or.inl hS⟩
  · rw [if_neg h9, if_neg h9]
    exact ⟨c, F, M, R, rfl, rfl, h⟩
end ZSIML
