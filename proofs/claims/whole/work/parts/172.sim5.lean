/-! query -/
section ZSIM5
variable {A B : Nat} {X Y : zh_T} {M F I J G K : Nat → Nat → Int32} {w e : Nat → Nat} {R : Nat → Nat → Int32} {N n c jc pd : Nat} {s0 : Int32} {V : Nat → Nat → Bool}
theorem node_up (h : Sim s0 V n c jc pd M F I J G K w e R) {xx : Nat} (hx : xx < 3) : f_ZoneNodes_isUp N (zC A X M F I J G K w e) A (ni xx) = some (R 1 xx) ∧ (R 1 xx = 0 ∨ R 1 xx = 1) := by
  obtain ⟨p1, p2, -⟩ := sim_p h
  obtain ⟨-, -, -, -, a5, a6, -⟩ := sim_1 h
  obtain ⟨-, -, -, -, b5, b6, -⟩ := sim_2 h
  have hc : xx = 0 ∨ xx = 1 ∨ xx = 2 := by omega
  rcases hc with rfl | rfl | rfl
  · exact ⟨by rw [s_isUp0 (by rw [p1]; exact p2), p1], p2⟩
  · exact ⟨by rw [s_isUp1 (by rw [a5]; exact a6), a5], a6⟩
  · exact ⟨by rw [s_isUp2 (by rw [b5]; exact b6), b5], b6⟩
theorem o_query (h : Sim s0 V n c jc pd M F I J G K w e R) (x a b : Int32) (hN : 300 < N) : ∃ r, f_ZoneNodes_query N (zC A X M F I J G K w e) A x a b = some r ∧ f_ZoneNodesModel_query N (zR B Y R) B x a b = some r := by
  unfold f_ZoneNodes_query f_ZoneNodesModel_query
  rw [ck0, zb1_some, k_isNode, zb1_some, k_isRecord, zb1_some]
  by_cases hx : 0 ≤ x ∧ x ≤ 2
  · obtain ⟨xx, x3, hxe, hcase⟩ := node_rec (N := N) (A := A) (X := X) h hx
    subst hxe
    obtain ⟨hup, hup01⟩ := node_up (N := N) (A := A) (X := X) h x3
    rw [if_pos hx, if_neg n10, rr4, zb1_some, ra1 x3, zb1_some, rr5, zb1_some, ra2 x3, zb1_some]
    rcases hcase with ⟨q, hr⟩ | ⟨q, k, z1, z2, hr, z3, z4, z5⟩
    · rw [hr, zb1_some, zbo_none, q]
      refine ⟨-1, rfl, ?_⟩
      by_cases hi : inRec a b 0
      · rw [pif_pos hi, if_neg n10]
        by_cases hu : R 1 xx = 0
        · rw [if_pos hu]
        · rw [if_neg hu, if_pos rfl]
      · rw [pif_neg hi, if_pos rfl]
    · rw [hr, zb1_some, zbo_some, s_isRecord, zb1_some, q]
      by_cases hi : inRec a b 0
      · rw [pif_pos hi, if_neg n10, if_neg n10, zb1_some, hup, zb1_some]
        rcases hup01 with hu | hu
        · rw [if_pos hu, if_pos hu]
          exact ⟨-1, rfl, rfl⟩
        · have hune : ¬ R 1 xx = 0 := by rw [hu]; exact n10
          rw [if_neg hune, if_neg hune, if_neg n10]
          obtain ⟨nm, ty, u, n1, t1, t2, v1, rfl, rfl, -⟩ := inRec_ni hi
          have hm : mC M F I J G K (k + 1) = M (k + 1) := mC_fix z2
          have hl : f_ZoneNodes_lookUp N (zC A X M F I J G K w e) (A + k) (ni nm) (ni ty) = some (look (cs (M (k + 1))) ty 9 nm) := by
            rw [zC, s_lookUp z1 n1 t1 t2 (by rw [hm]; exact z3) (by omega), hm]
          have hk := k_look (N := N) (B := B) (Y := Y) (R := R) (x := xx) x3 n1 t1 t2 (sim_b h).1 z5 hN
          have heq : look (cs (M (k + 1))) ty 9 nm = look (fun q => rb (R 4) (256 * xx + q)) ty 9 nm := look_congr z4 t1 t2 9 nm n1
          have hclk : M 0 6 = R 0 3 := h.1.1
          have e12 : xx = 0 ∨ xx = 1 ∨ xx = 2 := by omega
          rcases e12 with rfl | rfl | rfl
          · rw [if_pos z00, if_pos (show ni 0 ≤ 0 by decide), hl, zb1_some, hk, heq]
            exact ⟨_, rfl, rfl⟩
          · obtain ⟨-, -, -, -, -, -, -, -, -, a10, -⟩ := sim_1 h
            rw [if_neg n1z, if_neg (show ¬ ni 1 ≤ 0 by decide), cr0_5, zb1_some, show ni 1 - 1 = ni 0 from rfl, x_ar0, zb1_some, cg0_6, zb1_some, ck202, zb1_some, s_expired (k := 202) (Or.inl rfl), zb1_some, rg3, zb1_some, rr11, zb1_some, ra8 (i := 1) (by decide), zb1_some, hclk, a10]
            by_cases hexp : R 0 3 < R 8 1
            · rw [if_pos hexp, if_pos rfl, if_pos hexp, hl, zb1_some, hk, heq]
              exact ⟨_, rfl, rfl⟩
            · rw [if_neg hexp, if_neg n10, if_neg hexp]
              exact ⟨-1, rfl, rfl⟩
          · obtain ⟨-, -, -, -, -, -, -, -, -, a10, -⟩ := sim_2 h
            rw [if_neg n2z, if_neg (show ¬ ni 2 ≤ 0 by decide), cr0_5, zb1_some, show ni 2 - 1 = ni 1 from rfl, x_ar1, zb1_some, cg0_6, zb1_some, ck207, zb1_some, s_expired (k := 207) (Or.inr rfl), zb1_some, rg3, zb1_some, rr11, zb1_some, ra8 (i := 2) (by decide), zb1_some, hclk, a10]
            by_cases hexp : R 0 3 < R 8 2
            · rw [if_pos hexp, if_pos rfl, if_pos hexp, hl, zb1_some, hk, heq]
              exact ⟨_, rfl, rfl⟩
            · rw [if_neg hexp, if_neg n10, if_neg hexp]
              exact ⟨-1, rfl, rfl⟩
      · rw [pif_neg hi, if_pos rfl, if_pos rfl]
        exact ⟨-1, rfl, rfl⟩
  · rw [s_recordsOfN hx, zb1_some, zbo_none, if_neg hx, if_pos rfl]
    exact ⟨-1, rfl, rfl⟩
end ZSIM5
