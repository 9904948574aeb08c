/-! change, seal, arm, and what only tells -/
theorem simA_key {M0 M1 M2 R9 R10 : Nat → Int32} {clk : Int32} (h : SimA M0 M1 M2 clk R9 R10) {k : Nat} (hk : k < 3) : M1 k = R10 k ∧ M2 k = R9 k := ⟨(h.2 k hk).1, (h.2 k hk).2.1⟩
section ZSIM2
variable {A B : Nat} {X Y : zh_T} {M F I J G K : Nat → Nat → Int32} {w e : Nat → Nat} {R : Nat → Nat → Int32} {N n c jc pd : Nat} {s0 : Int32} {V : Nat → Nat → Bool}
theorem o_change (h : Sim s0 V n c jc pd M F I J G K w e R) (fm a b v : Int32) : ∃ r M' R', f_ZoneNodes_change N (zC A X M F I J G K w e) A fm a b v = some (r, zC A X M' F I J G K w e) ∧ f_ZoneNodesModel_change N (zR B Y R) B fm a b v = some (r, zR B Y R') ∧ Sim s0 V n c jc pd M' F I J G K w e R' := by
  unfold f_ZoneNodes_change f_ZoneNodesModel_change
  rw [s_within, zb1_some, s_isRecord, zb1_some, k_isRecord, zb1_some]
  by_cases f1 : 0 ≤ fm
  · by_cases f2 : fm ≤ 3
    · rw [if_pos (show 0 ≤ fm ∧ fm ≤ 3 from ⟨f1, f2⟩), if_neg (by decide), if_neg (Int32.not_lt.mpr f1), if_neg (Int32.not_lt.mpr f2)]
      by_cases hr : inRec a b v
      · rw [pif_pos hr, if_neg (by decide), if_neg (by decide)]
        obtain ⟨hA, ⟨nc, cc, Dn, Dc, d1, d2, d3, d4, d5, d6, d7, d8⟩, hrest⟩ := h
        obtain ⟨nm, ty, u, n1, t1, t2, v1, rfl, rfl, rfl⟩ := inRec_ni hr
        obtain ⟨fk, -, k2, rfl⟩ := ni_range (lo := 0) (hi := 3) (by decide) (by decide) f1 f2
        rw [cr0_2, zb1_some, s_coded, zb1_some, ck3, zb1_some, s_addChange d5 d2, rg15, zb1_some, d6, zb1_some, rck, zb1_some]
        by_cases hlt : cc < 4
        · have hs := k_say (N := N) (B := B) (Y := Y) (R := R) (i := 4 + cc) (d := (fk, nm, ty, u)) (by omega)
          rw [if_pos hlt, zb2_some, if_neg (by decide), if_pos (show ni cc < 4 from (ni_lt (a := cc) (b := 4) (by omega) (by decide)).mpr hlt), show (4 : Int32) = ni 4 from rfl, ni_add, hs, zb2_some, rg15, zb1_some, rq15, zb1_some]
          refine ⟨1, _, _, rfl, rfl, ?_⟩
          refine ⟨hA, ⟨nc, cc + 1, Dn, fun i => if i = cc then (fk, nm, ty, u) else Dc i, d1, by omega, d3, d4, ?_, ?_, fun i hi => ?_, fun i hi => ?_⟩, hrest⟩
          · show upd (M 3) 3 (ni (cc + 1)) 3 = ni (cc + 1)
            exact upd_eq _ _ _
          · show R 0 15 + 1 = ni (cc + 1)
            rw [d6, ni_succ]
          · obtain ⟨q1, q2, q3⟩ := d7 i hi
            exact ⟨q1, q2, sayR_other (by omega) q3⟩
          · show dok 4 (if i = cc then (fk, nm, ty, u) else Dc i) ∧ upd (M 5) cc (cd fk nm ty u) i = cdd (if i = cc then (fk, nm, ty, u) else Dc i) ∧ rdr (fun _ => sayR (R 11) (4 + cc) (fk, nm, ty, u)) (4 + i) (if i = cc then (fk, nm, ty, u) else Dc i)
            by_cases ei : i = cc
            · subst ei
              rw [if_pos rfl, upd_eq]
              exact ⟨⟨by show fk < 4; omega, n1, t1, t2, v1⟩, rfl, sayR_at _ _ _⟩
            · obtain ⟨q1, q2, q3⟩ := d8 i (by omega)
              rw [if_neg ei, upd_ne _ ei]
              exact ⟨q1, q2, sayR_other (by omega) q3⟩
        · rw [if_neg hlt, zb2_some, if_pos rfl, if_neg (show ¬ ni cc < 4 from fun q => hlt ((ni_lt (a := cc) (b := 4) (by omega) (by decide)).mp q))]
          exact ⟨0, M, R, rfl, rfl, hA, ⟨nc, cc, Dn, Dc, d1, d2, d3, d4, d5, d6, d7, d8⟩, hrest⟩
      · rw [pif_neg hr, if_pos rfl, if_pos rfl]
        exact ⟨0, M, R, rfl, rfl, h⟩
    · rw [if_neg (show ¬ (0 ≤ fm ∧ fm ≤ 3) from fun q => f2 q.2), if_pos rfl, if_neg (Int32.not_lt.mpr f1), if_pos (Int32.not_le.mp f2)]
      exact ⟨0, M, R, rfl, rfl, h⟩
  · rw [if_neg (show ¬ (0 ≤ fm ∧ fm ≤ 3) from fun q => f1 q.1), if_pos rfl, if_pos (Int32.not_le.mp f1)]
    exact ⟨0, M, R, rfl, rfl, h⟩
theorem s_knowsKey (k : Int32) : f_ZoneNodes_knowsKey N (zC A X M F I J G K w e) A k = some (pif ((0 ≤ k ∧ k ≤ 2) ∧ M 2 k.toNatClampNeg ≠ 0) 1 0) := by
  unfold f_ZoneNodes_knowsKey
  rw [s_within, zb1_some]
  by_cases h : 0 ≤ k ∧ k ≤ 2
  · obtain ⟨kk, -, k2, rfl⟩ := ni_range (lo := 0) (hi := 2) (by decide) (by decide) h.1 h.2
    rw [if_pos h, if_neg (by decide), cr0_1, zb1_some, C_az (k := 2) (len := 3) (i := kk) (by decide) ⟨by decide, by decide⟩ rfl (by omega) (by decide), zb1_some, ni_to (n := kk) (by omega)]
    by_cases h0 : M 2 kk = 0
    · rw [if_pos h0, pif_neg (fun q => q.2 h0)]
    · rw [if_neg h0, pif_pos ⟨h, h0⟩]
  · rw [if_neg h, if_pos rfl, pif_neg (fun q => h q.1)]
/-- both seals are one number -/
theorem seal_eq (h : Sim s0 V n c jc pd M F I J G K w e R) {k : Nat} (hk : k < 3) (t : Int32) (hN : 100 < N) : ∃ z, f_Draft_sealWith N (zC A X M F I J G K w e) (A + 3) (M 1 k) t = some z ∧ f_ZoneNodesModel_sealed N (zR B Y R) B (ni k) t = some z := by
  obtain ⟨hA, ⟨nc, cc, Dn, Dc, d1, d2, d3, d4, d5, d6, d7, d8⟩, hrest⟩ := h
  have e1 := s_sealWith (N := N) (A := A) (X := X) (F := F) (I := I) (J := J) (G := G) (K := K) (w := w) (e := e) d3 d1 d5 d2 hN (M 1 k) t
  have e2 := k_sealed (N := N) (B := B) (Y := Y) (R := R) (Dn := Dn) (Dc := Dc) hk d4 d1 d6 d2 (fun i hi => (d7 i hi).2.2) (fun i hi => (d8 i hi).2.2) t hN
  refine ⟨_, e1, ?_⟩
  rw [e2, (hA.2 k hk).1, mixn_congr mixz (g := M 4) (g' := fun j => cdd (Dn j)) nc 0 _ (fun j _ hj => (d7 j (by omega)).2.1), mixn_congr mixz (g := M 5) (g' := fun j => cdd (Dc j)) cc 0 _ (fun j _ hj => (d8 j (by omega)).2.1)]
theorem o_seal (h : Sim s0 V n c jc pd M F I J G K w e R) (k t : Int32) (hN : 100 < N) : ∃ r, f_ZoneNodes_seal N (zC A X M F I J G K w e) A k t = some r ∧ f_ZoneNodesModel_seal N (zR B Y R) B k t = some r := by
  unfold f_ZoneNodes_seal f_ZoneNodesModel_seal
  rw [ck0, zb1_some, s_knowsKey, zb1_some]
  by_cases h1 : 0 ≤ k
  · by_cases h2 : k ≤ 2
    · obtain ⟨kk, -, k2, rfl⟩ := ni_range (lo := 0) (hi := 2) (by decide) (by decide) h1 h2
      have hk : kk < 3 := by omega
      obtain ⟨z, z1, z2⟩ := seal_eq (N := N) (A := A) (X := X) (B := B) (Y := Y) h hk t hN
      obtain ⟨a1, a2⟩ := simA_key h.1 hk
      rw [if_neg (Int32.not_lt.mpr h1), if_neg (Int32.not_lt.mpr h2), rr12, zb1_some, ra9 hk, zb1_some, ni_to (n := kk) (by omega), a2]
      by_cases h0 : R 9 kk = 0
      · rw [pif_neg (fun q => q.2 h0), if_pos rfl, if_pos h0]
        exact ⟨0, rfl, rfl⟩
      · rw [pif_pos ⟨⟨h1, h2⟩, h0⟩, if_neg (by decide), if_neg h0, cr0_2, zb1_some, cr0_0, zb1_some, C_ai (k := 1) (len := 3) (i := kk) (by decide) ⟨by decide, by decide⟩ rfl hk (by decide), zb1_some, ck3, zb1_some, z1, zb1_some, rck, zb1_some, z2, zb1_some]
        exact ⟨z, rfl, rfl⟩
    · rw [pif_neg (fun q => h2 q.1.2), if_pos rfl, if_neg (Int32.not_lt.mpr h1), if_pos (Int32.not_le.mp h2)]
      exact ⟨0, rfl, rfl⟩
  · rw [pif_neg (fun q => h1 q.1.1), if_pos rfl, if_pos (Int32.not_le.mp h1)]
    exact ⟨0, rfl, rfl⟩
theorem o_arm (h : Sim s0 V n c jc pd M F I J G K w e R) (x : Int32) : ∃ r M' R', f_ZoneNodes_arm N (zC A X M F I J G K w e) A x = some (r, zC A X M' F I J G K w e) ∧ f_ZoneNodesModel_arm N (zR B Y R) B x = some (r, zR B Y R') ∧ Sim s0 V n c jc pd M' F I J G K w e R' := by
  unfold f_ZoneNodes_arm f_ZoneNodesModel_arm
  have h0 : zaz (zR B Y R) (B + 1) 0 = some (R 1 0) := ra1 (i := 0) (by decide)
  rw [s_within, zb1_some, cr0_4, zb1_some, cg169_8, zb1_some, zb1_some, rr4, zb1_some, h0, zb1_some]
  by_cases h1 : 0 ≤ x
  · by_cases h2 : x ≤ 3
    · rw [if_pos (show 0 ≤ x ∧ x ≤ 3 from ⟨h1, h2⟩), if_neg (by decide), if_neg (Int32.not_lt.mpr h1), if_neg (Int32.not_lt.mpr h2), h.2.2.2.1.1]
      by_cases hu : R 1 0 = 0
      · rw [if_pos hu, if_pos hu]
        exact ⟨0, M, R, rfl, rfl, h⟩
      · rw [if_neg hu, if_neg hu, cp169_7, zb1_some, rq17, zb1_some]
        obtain ⟨kk, -, k2, rfl⟩ := ni_range (lo := 0) (hi := 3) (by decide) (by decide) h1 h2
        obtain ⟨hA, hD, hB, ⟨p1, p2, -, -, p5⟩, hrest⟩ := h
        refine ⟨1, _, _, rfl, rfl, hA, hD, hB, ⟨p1, p2, rfl, ?_, p5⟩, hrest⟩
        show ni kk = 0 ∨ ni kk = 1 ∨ ni kk = 2 ∨ ni kk = 3
        have hc : kk = 0 ∨ kk = 1 ∨ kk = 2 ∨ kk = 3 := by omega
        rcases hc with rfl | rfl | rfl | rfl
        · exact Or.inl rfl
        · exact Or.inr (Or.inl rfl)
        · exact Or.inr (Or.inr (Or.inl rfl))
        · exact Or.inr (Or.inr (Or.inr rfl))
    · rw [if_neg (show ¬ (0 ≤ x ∧ x ≤ 3) from fun q => h2 q.2), if_pos rfl, if_neg (Int32.not_lt.mpr h1), if_pos (Int32.not_le.mp h2)]
      exact ⟨0, M, R, rfl, rfl, h⟩
  · rw [if_neg (show ¬ (0 ≤ x ∧ x ≤ 3) from fun q => h1 q.1), if_pos rfl, if_pos (Int32.not_le.mp h1)]
    exact ⟨0, M, R, rfl, rfl, h⟩
theorem o_journal (h : Sim s0 V n c jc pd M F I J G K w e R) : ∃ r, f_ZoneNodes_journal N (zC A X M F I J G K w e) A = some r ∧ f_ZoneNodesModel_journal N (zR B Y R) B = some r := by
  unfold f_ZoneNodes_journal f_ZoneNodesModel_journal
  obtain ⟨-, -, -, -, ⟨-, -, -, -, -, j6, j7, -⟩, -⟩ := h
  rw [cr0_4, zb1_some, cr169_2, zb1_some, cg174_1, zb1_some, rg18, zb1_some, j6, j7]
  exact ⟨_, rfl, rfl⟩
theorem o_messages (h : Sim s0 V n c jc pd M F I J G K w e R) : ∃ r, f_ZoneNodes_messages N (zC A X M F I J G K w e) A = some r ∧ f_ZoneNodesModel_messages N (zR B Y R) B = some r := by
  unfold f_ZoneNodes_messages f_ZoneNodesModel_messages
  obtain ⟨-, -, -, -, -, -, -, -, ⟨-, m2, m3, -⟩, -⟩ := h
  rw [cr0_3, zb1_some, cg6_1, zb1_some, rg24, zb1_some, m2, m3]
  exact ⟨_, rfl, rfl⟩
end ZSIM2
