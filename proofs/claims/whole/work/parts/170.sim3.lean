/-! message; what nodes tell -/
theorem n10 : ¬ (1 : Int32) = 0 := by decide
theorem z00 : ni 0 = 0 := rfl
theorem n1z : ¬ ni 1 = 0 := by decide
theorem n2z : ¬ ni 2 = 0 := by decide
section ZSIM3
variable {A B : Nat} {X Y : zh_T} {M F I J G K : Nat → Nat → Int32} {w e : Nat → Nat} {R : Nat → Nat → Int32} {N n c jc pd : Nat} {s0 : Int32} {V : Nat → Nat → Bool}
theorem sim_m (h : Sim s0 V n c jc pd M F I J G K w e R) : SimM F I w c (M 6) (R 0 24) (rlist R c) := h.2.2.2.2.2.2.2.2.1
theorem sim_at (h : Sim s0 V n c jc pd M F I J G K w e R) {i : Nat} (hi : i < c) : mrel (F (w i), I (w i)) (rmsg R i) :=
  (sim_m h).2.2.2.2.2.1 i _ _ (mlist_get F I w hi) (rlist_get R hi)
theorem o_message (h : Sim s0 V n c jc pd M F I J G K w e R) (i : Int32) : ∃ r, f_ZoneNodes_message N (zC A X M F I J G K w e) A i = some r ∧ f_ZoneNodesModel_message N (zR B Y R) B i = some r := by
  obtain ⟨m1, m2, m3, m4, -⟩ := sim_m h
  unfold f_ZoneNodes_message f_ZoneNodesModel_message
  rw [cr0_3, zb1_some, ck6, zb1_some, s_at m2 m1, zb1_some, rck, zb1_some, k_isMessage m3 (by omega), zb1_some]
  by_cases hi : 0 ≤ i ∧ i.toNatClampNeg < c
  · rw [if_pos hi, if_pos hi, zbo_some, if_neg (by decide)]
    obtain ⟨h1, h2⟩ := hi
    have hn := ni_of h1
    generalize i.toNatClampNeg = k at hn h2
    subst hn
    have hx := m4.1 k (by omega)
    have h96 : k < 96 := by omega
    obtain ⟨q1, q2, q3, q4, q5, q6, q7, q8⟩ := sim_at h h2
    simp only [m_gi hx (j := 1) rfl, m_gi hx (j := 2) rfl, m_gi hx (j := 5) rfl, m_gi hx (j := 6) rfl, zb1_some, rr25, rr26, rr28, rr29, ra17 h96, ra18 h96, ra20 h96, ra21 h96]
    have e1 : F (w k) 1 = R 17 k := q1
    have e2 : F (w k) 2 = R 18 k := q2
    rw [e1, e2]
    by_cases h5 : R 17 k = 5
    · obtain ⟨a1, a2, -⟩ := q7 h5
      have e5 : F (w k) 5 = R 20 k := a1
      have e6 : F (w k) 6 = R 21 k := a2
      rw [if_pos h5, e5, e6]
      exact ⟨_, rfl, rfl⟩
    · obtain ⟨a1, a2⟩ := q8 h5
      have e5 : R 20 k = 0 := a1
      have e6 : R 21 k = 0 := a2
      rw [if_neg h5, e5, e6]
      exact ⟨_, rfl, by rw [show (100 : Int32) * 0 = 0 by decide, Int32.add_zero, Int32.add_zero]⟩
  · rw [if_neg hi, if_neg hi, zbo_none, if_pos rfl]
    exact ⟨-1, rfl, rfl⟩
theorem s_isNode {Z : zh_T} (x : Int32) : f_ZoneNodes_isNode N Z x = some (if 0 ≤ x ∧ x ≤ 2 then 1 else 0) := by
  unfold f_ZoneNodes_isNode
  rw [s_within, zb1_some]
  by_cases h : 0 ≤ x ∧ x ≤ 2
  · rw [if_pos h]
    rfl
  · rw [if_neg h]
    rfl
theorem k_isNode {Z : zh_T} (x : Int32) : f_ZoneNodesModel_isNode N Z x = some (if 0 ≤ x ∧ x ≤ 2 then 1 else 0) := by
  unfold f_ZoneNodesModel_isNode
  by_cases h1 : x < 0
  · rw [if_pos h1, if_neg (show ¬ (0 ≤ x ∧ x ≤ 2) from fun q => absurd h1 (Int32.not_lt.mpr q.1))]
  · rw [if_neg h1]
    by_cases h2 : 2 < x
    · rw [if_pos h2, if_neg (show ¬ (0 ≤ x ∧ x ≤ 2) from fun q => absurd h2 (Int32.not_lt.mpr q.2))]
    · rw [if_neg h2, if_pos (show 0 ≤ x ∧ x ≤ 2 from ⟨Int32.not_lt.mp h1, Int32.not_lt.mp h2⟩)]
/-- a node's number is 0, 1 or 2 -/
theorem node_cases {x : Int32} (h : 0 ≤ x ∧ x ≤ 2) : x = ni 0 ∨ x = ni 1 ∨ x = ni 2 := by
  obtain ⟨k, -, k2, rfl⟩ := ni_range (lo := 0) (hi := 2) (by decide) (by decide) h.1 h.2
  have hc : k = 0 ∨ k = 1 ∨ k = 2 := by omega
  rcases hc with rfl | rfl | rfl
  · exact Or.inl rfl
  · exact Or.inr (Or.inl rfl)
  · exact Or.inr (Or.inr rfl)
theorem s_isUp0 (h : M 169 8 = 0 ∨ M 169 8 = 1) : f_ZoneNodes_isUp N (zC A X M F I J G K w e) A (ni 0) = some (M 169 8) := by
  unfold f_ZoneNodes_isUp
  rw [if_pos z00, cr0_4, zb1_some, cg169_8, zb1_some, zbz_01 h, zb1_some]
theorem s_isUp1 (h : M 202 6 = 0 ∨ M 202 6 = 1) : f_ZoneNodes_isUp N (zC A X M F I J G K w e) A (ni 1) = some (M 202 6) := by
  unfold f_ZoneNodes_isUp
  rw [if_neg n1z, cr0_5, zb1_some, show ni 1 - 1 = ni 0 from rfl, x_ar0, zb1_some, cg202_6, zb1_some, zbz_01 h, zb1_some]
theorem s_isUp2 (h : M 207 6 = 0 ∨ M 207 6 = 1) : f_ZoneNodes_isUp N (zC A X M F I J G K w e) A (ni 2) = some (M 207 6) := by
  unfold f_ZoneNodes_isUp
  rw [if_neg n2z, cr0_5, zb1_some, show ni 2 - 1 = ni 1 from rfl, x_ar1, zb1_some, cg207_6, zb1_some, zbz_01 h, zb1_some]
theorem sim_p (h : Sim s0 V n c jc pd M F I J G K w e R) : SimP s0 V n (M 169) (M 171) (M 173) (R 1 0) (R 0 17) (R 3 0) (R 2 0) (R 4) := h.2.2.2.1
theorem sim_1 (h : Sim s0 V n c jc pd M F I J G K w e R) : SimS s0 V n 1 (M 202) (M 204) (M 206) (R 0 0) (R 0 1) (R 0 2) (R 1) (R 2) (R 3) (R 4) (R 6) (R 7) (R 8) := h.2.2.2.2.2.2.1
theorem sim_2 (h : Sim s0 V n c jc pd M F I J G K w e R) : SimS s0 V n 2 (M 207) (M 209) (M 211) (R 0 0) (R 0 1) (R 0 2) (R 1) (R 2) (R 3) (R 4) (R 6) (R 7) (R 8) := h.2.2.2.2.2.2.2.1
theorem sim_b (h : Sim s0 V n c jc pd M F I J G K w e R) : SimB (R 4) (R 5) (R 13) (R 14) (R 16) (R 22) (R 23) := h.2.2.1
theorem o_state (h : Sim s0 V n c jc pd M F I J G K w e R) (x : Int32) : ∃ r, f_ZoneNodes_state N (zC A X M F I J G K w e) A x = some r ∧ f_ZoneNodesModel_state N (zR B Y R) B x = some r := by
  unfold f_ZoneNodes_state f_ZoneNodesModel_state
  rw [s_isNode, zb1_some, k_isNode, zb1_some]
  by_cases hx : 0 ≤ x ∧ x ≤ 2
  · rw [if_pos hx, if_neg n10, if_neg n10, ck0, zb1_some, rr4, zb1_some]
    obtain ⟨p1, p2, -⟩ := sim_p h
    obtain ⟨-, -, -, -, a5, a6, -, -, -, -, a11, -⟩ := sim_1 h
    obtain ⟨-, -, -, -, b5, b6, -, -, -, -, b11, -⟩ := sim_2 h
    rcases node_cases hx with rfl | rfl | rfl
    · rw [s_isUp0 (by rw [p1]; exact p2), zb1_some, ra1 (i := 0) (by decide), zb1_some, p1]
      rcases p2 with q | q
      · rw [q, if_pos rfl, if_pos rfl]
        exact ⟨3, rfl, rfl⟩
      · rw [q, if_neg n10, if_neg n10, if_pos z00, if_pos z00]
        exact ⟨0, rfl, rfl⟩
    · rw [s_isUp1 (by rw [a5]; exact a6), zb1_some, ra1 (i := 1) (by decide), zb1_some, a5]
      rcases a6 with q | q
      · rw [q, if_pos rfl, if_pos rfl]
        exact ⟨3, rfl, rfl⟩
      · rw [q, if_neg n10, if_neg n10, if_neg n1z, if_neg n1z, cr0_5, zb1_some, show ni 1 - 1 = ni 0 from rfl, x_ar0, zb1_some, cg202_9, zb1_some, rr9, zb1_some, ra6 (i := 1) (by decide), zb1_some, (a11 q).1]
        exact ⟨_, rfl, rfl⟩
    · rw [s_isUp2 (by rw [b5]; exact b6), zb1_some, ra1 (i := 2) (by decide), zb1_some, b5]
      rcases b6 with q | q
      · rw [q, if_pos rfl, if_pos rfl]
        exact ⟨3, rfl, rfl⟩
      · rw [q, if_neg n10, if_neg n10, if_neg n2z, if_neg n2z, cr0_5, zb1_some, show ni 2 - 1 = ni 1 from rfl, x_ar1, zb1_some, cg207_9, zb1_some, rr9, zb1_some, ra6 (i := 2) (by decide), zb1_some, (b11 q).1]
        exact ⟨_, rfl, rfl⟩
  · rw [if_neg hx, if_pos rfl, if_pos rfl]
    exact ⟨-1, rfl, rfl⟩
/-- where a node's records lie, if it has a version -/
theorem s_recordsOf0 : f_ZoneNodes_recordsOf N (zC A X M F I J G K w e) A (ni 0) = some (some (A + 170)) := by
  unfold f_ZoneNodes_recordsOf
  rw [if_pos z00, cr0_4, zb1_some, cr169_0, zb1_some]
theorem s_recordsOf1 : f_ZoneNodes_recordsOf N (zC A X M F I J G K w e) A (ni 1) = some (if M 202 7 = 0 then none else some (A + 203)) := by
  unfold f_ZoneNodes_recordsOf
  rw [if_neg n1z, s_isNode, zb1_some, if_pos (show 0 ≤ ni 1 ∧ ni 1 ≤ 2 by decide), if_neg n10]
  simp only [cr0_5, zb1_some, show ni 1 - 1 = ni 0 from rfl, x_ar0, cg202_7, cr202_4]
  by_cases h : M 202 7 = 0
  · rw [if_pos h, if_pos h]
  · rw [if_neg h, if_neg h]
theorem s_recordsOf2 : f_ZoneNodes_recordsOf N (zC A X M F I J G K w e) A (ni 2) = some (if M 207 7 = 0 then none else some (A + 208)) := by
  unfold f_ZoneNodes_recordsOf
  rw [if_neg n2z, s_isNode, zb1_some, if_pos (show 0 ≤ ni 2 ∧ ni 2 ≤ 2 by decide), if_neg n10]
  simp only [cr0_5, zb1_some, show ni 2 - 1 = ni 1 from rfl, x_ar1, cg207_7, cr207_4]
  by_cases h : M 207 7 = 0
  · rw [if_pos h, if_pos h]
  · rw [if_neg h, if_neg h]
theorem s_recordsOfN {x : Int32} (hx : ¬ (0 ≤ x ∧ x ≤ 2)) : f_ZoneNodes_recordsOf N (zC A X M F I J G K w e) A x = some none := by
  unfold f_ZoneNodes_recordsOf
  rw [if_neg (show ¬ x = 0 from fun q => hx (by rw [q]; decide)), s_isNode, zb1_some, if_neg hx, if_pos rfl]
theorem o_serial (h : Sim s0 V n c jc pd M F I J G K w e R) (x : Int32) : ∃ r, f_ZoneNodes_serial N (zC A X M F I J G K w e) A x = some r ∧ f_ZoneNodesModel_serial N (zR B Y R) B x = some r := by
  unfold f_ZoneNodes_serial f_ZoneNodesModel_serial
  rw [ck0, zb1_some, k_isNode, zb1_some]
  by_cases hx : 0 ≤ x ∧ x ≤ 2
  · rw [if_pos hx, if_neg n10, rr5, zb1_some]
    obtain ⟨-, -, -, -, p5, -, p7, -⟩ := sim_p h
    obtain ⟨-, -, -, -, -, -, a7, a8, a9, -⟩ := sim_1 h
    obtain ⟨-, -, -, -, -, -, b7, b8, b9, -⟩ := sim_2 h
    rcases node_cases hx with rfl | rfl | rfl
    · rw [s_recordsOf0, zb1_some, zbo_some, if_pos z00, cr0_4, zb1_some, cg169_6, zb1_some, ra2 (i := 0) (by decide), zb1_some, p7, if_neg n10, rr6, zb1_some, ra3 (i := 0) (by decide), zb1_some, p5]
      exact ⟨_, rfl, rfl⟩
    · rw [s_recordsOf1, zb1_some, ra2 (i := 1) (by decide), zb1_some, a7]
      rcases a8 with q | q
      · rw [q, if_pos rfl, if_pos rfl, zbo_none]
        exact ⟨0, rfl, rfl⟩
      · rw [q, if_neg n10, if_neg n10, zbo_some, if_neg n1z, cr0_5, zb1_some, show ni 1 - 1 = ni 0 from rfl, x_ar0, zb1_some, cg202_8, zb1_some, rr6, zb1_some, ra3 (i := 1) (by decide), zb1_some, a9]
        exact ⟨_, rfl, rfl⟩
    · rw [s_recordsOf2, zb1_some, ra2 (i := 2) (by decide), zb1_some, b7]
      rcases b8 with q | q
      · rw [q, if_pos rfl, if_pos rfl, zbo_none]
        exact ⟨0, rfl, rfl⟩
      · rw [q, if_neg n10, if_neg n10, zbo_some, if_neg n2z, cr0_5, zb1_some, show ni 2 - 1 = ni 1 from rfl, x_ar1, zb1_some, cg207_8, zb1_some, rr6, zb1_some, ra3 (i := 2) (by decide), zb1_some, b9]
        exact ⟨_, rfl, rfl⟩
  · rw [s_recordsOfN hx, zb1_some, zbo_none, if_neg hx, if_pos rfl]
    exact ⟨0, rfl, rfl⟩
end ZSIM3
