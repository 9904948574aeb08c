/-! only the messages have changed -/
section ZSIMA
variable {A B : Nat} {X Y : zh_T} {M F I J G K M1 F1 I1 : Nat → Nat → Int32} {w e w1 : Nat → Nat} {R R1 : Nat → Nat → Int32} {N n c jc pd c1 : Nat} {s0 : Int32} {V : Nat → Nat → Bool}
theorem Sim_msgs (h : Sim s0 V n c jc pd M F I J G K w e R) (hM : ∀ k, k ≠ 6 → M1 k = M k) (hR : rfr R R1) (hSM : SimM F1 I1 w1 c1 (M1 6) (R1 0 24) (rlist R1 c1))
    (hT1 : SimT s0 V n 1 (M 202) (M 204) (M 206) (R 1 0) (R 6 1) (R 5) ((mlist F1 I1 w1 c1).filter (ofS 1))) (hT2 : SimT s0 V n 2 (M 207) (M 209) (M 211) (R 1 0) (R 6 2) (R 5) ((mlist F1 I1 w1 c1).filter (ofS 2))) : Sim s0 V n c1 jc pd M1 F1 I1 J G K w1 e R1 := by
  obtain ⟨hA, hD, ⟨b1, b2, b3, b4, b5, -, -⟩, hP, hJ, hV, hS1, hS2, -, -, -⟩ := h
  obtain ⟨r1, r2, r22, r23⟩ := hR
  unfold Sim
  rw [hM 0 (by decide), hM 1 (by decide), hM 2 (by decide), hM 3 (by decide), hM 4 (by decide), hM 5 (by decide), hM 169 (by decide), hM 171 (by decide), hM 173 (by decide), hM 174 (by decide), hM 202 (by decide), hM 204 (by decide), hM 206 (by decide), hM 207 (by decide), hM 209 (by decide), hM 211 (by decide)]
  rw [r2 3 (by decide), r2 14 (by decide), r2 15 (by decide), r2 17 (by decide), r2 18 (by decide), r2 0 (by decide), r2 1 (by decide), r2 2 (by decide)]
  rw [r1 1 (by decide) (by decide), r1 2 (by decide) (by decide), r1 3 (by decide) (by decide), r1 4 (by decide) (by decide), r1 5 (by decide) (by decide), r1 6 (by decide) (by decide), r1 7 (by decide) (by decide), r1 8 (by decide) (by decide), r1 9 (by decide) (by decide), r1 10 (by decide) (by decide), r1 11 (by decide) (by decide), r1 12 (by decide) (by decide), r1 13 (by decide) (by decide), r1 14 (by decide) (by decide), r1 15 (by decide) (by decide), r1 16 (by decide) (by decide)]
  exact ⟨hA, hD, ⟨b1, b2, b3, b4, b5, r22, r23⟩, hP, hJ, hV, hS1, hS2, hSM, hT1, hT2⟩
theorem sim_t1 (h : Sim s0 V n c jc pd M F I J G K w e R) : SimT s0 V n 1 (M 202) (M 204) (M 206) (R 1 0) (R 6 1) (R 5) ((mlist F I w c).filter (ofS 1)) := h.2.2.2.2.2.2.2.2.2.1
theorem sim_t2 (h : Sim s0 V n c jc pd M F I J G K w e R) : SimT s0 V n 2 (M 207) (M 209) (M 211) (R 1 0) (R 6 2) (R 5) ((mlist F I w c).filter (ofS 2)) := h.2.2.2.2.2.2.2.2.2.2
/-- a message that may be lost is sent: Sim goes on -/
theorem Sim_send (h : Sim s0 V n c jc pd M F I J G K w e R) {kd s sr : Int32} (hk : kd = 1 ∨ kd = 2 ∨ kd = 3) (hs : s = 1 ∨ s = 2) (hN : 300 < N) :
    ∃ c' F' M' R', f_Wire_sendLossy N (zC A X M F I J G K w e) (A + 6) kd s sr = some ((), zC A X M' F' I J G K w e) ∧ f_ZoneNodesModel_send N (zR B Y R) B kd s sr = some ((), zR B Y R') ∧ rfr R R' ∧ (∀ k, k ≠ 6 → M' k = M k) ∧ (∀ x : Int32, (mlist F' I w c').filter (ofS x) = (mlist F I w c).filter (ofS x)) ∧ Sim s0 V n c' jc pd M' F' I J G K w e R' := by
  have hb := sim_b h
  obtain ⟨c', F', M', R', q1, q2, q3, q4, q5, q6⟩ := o_send (N := N) (A := A) (B := B) (X := X) (Y := Y) (M := M) (J := J) (G := G) (K := K) (e := e) (sr := sr) rfl rfl (sim_m h) hb.2.2.2.2.2.1 hb.2.2.2.2.2.2 (simT_len (sim_t1 h)) (simT_len (sim_t2 h)) hk hs hN
  refine ⟨c', F', M', R', q1, q2, q3, q4, q6, Sim_msgs h q4 q3 q5 ?_ ?_⟩
  · rw [q6]
    exact sim_t1 h
  · rw [q6]
    exact sim_t2 h
/-- NOTIFYs to both secondaries -/
theorem Sim_notify (h : Sim s0 V n c jc pd M F I J G K w e R) (hN : 300 < N) : ∃ c' F' M' R', f_ZoneNodes_notifySecondaries N (zC A X M F I J G K w e) A = some ((), zC A X M' F' I J G K w e) ∧ f_ZoneNodesModel_notifyBoth N (zR B Y R) B = some ((), zR B Y R') ∧ rfr R R' ∧ (∀ k, k ≠ 6 → M' k = M k) ∧ Sim s0 V n c' jc pd M' F' I J G K w e R' := by
  obtain ⟨f, hf⟩ : ∃ f, N = f + 1 + 1 + 1 := ⟨N - 3, by omega⟩
  obtain ⟨c1, F1, M1, R1, a1, a2, a3, a4, -, a6⟩ := Sim_send (N := N) (A := A) (X := X) (B := B) (Y := Y) (kd := 1) (s := 1) (sr := R 3 0) h (Or.inl rfl) (Or.inl rfl) hN
  obtain ⟨c2, F2, M2, R2, b1, b2, b3, b4, -, b6⟩ := Sim_send (N := N) (A := A) (X := X) (B := B) (Y := Y) (kd := 1) (s := 2) (sr := R 3 0) a6 (Or.inl rfl) (Or.inr rfl) hN
  have s1 : M 169 6 = R 3 0 := (sim_p h).2.2.2.2.1
  have s2 : M1 169 6 = R 3 0 := by rw [a4 169 (by decide), s1]
  have r3 : R1 3 = R 3 := a3.1 3 (by decide) (by decide)
  have z0 : zai (zR B Y R) (B + 3) 0 = some (R 3 0) := ra3 (i := 0) (by decide)
  have z1 : zai (zR B Y R1) (B + 3) 0 = some (R 3 0) := by
    have := ra3 (B := B) (Y := Y) (R := R1) (i := 0) (by decide)
    rw [r3] at this
    exact this
  refine ⟨c2, F2, M2, R2, ?_, ?_, a3.trans b3, fun k hk => (b4 k hk).trans (a4 k hk), b6⟩
  · unfold f_ZoneNodes_notifySecondaries
    rw [show L_ZoneNodes_notifySecondaries_2 N A N = L_ZoneNodes_notifySecondaries_2 N A (f + 1 + 1 + 1) from by rw [← hf]]
    rw [L_ZoneNodes_notifySecondaries_2, if_neg (by decide), cr0_3, zb1_some, cr0_4, zb1_some, cg169_6, zb1_some, ck6, zb1_some, s1, a1, zb2_some]
    rw [L_ZoneNodes_notifySecondaries_2, if_neg (by decide), cr0_3, zb1_some, cr0_4, zb1_some, cg169_6, zb1_some, ck6, zb1_some, s2, show (1 : Int32) + 1 = 2 by decide, b1, zb2_some]
    rw [L_ZoneNodes_notifySecondaries_2, if_pos (by decide), zb2_some]
  · unfold f_ZoneNodesModel_notifyBoth
    rw [rr6, zb1_some, z0, zb1_some, rck, zb1_some, a2, zb2_some, rr6, zb1_some, z1, zb1_some, rck, zb1_some, b2, zb2_some]
end ZSIMA
