/-! the same relations while the class's draft is not yet emptied and the reference's is -/
def SimW (s0 : Int32) (V : Nat → Nat → Bool) (n c jc pd : Nat) (M F I J G K : Nat → Nat → Int32) (w e : Nat → Nat) (R : Nat → Nat → Int32) : Prop :=
  SimA (M 0) (M 1) (M 2) (R 0 3) (R 9) (R 10) ∧ (R 0 14 = 0 ∧ R 0 15 = 0) ∧ SimB (R 4) (R 5) (R 13) (R 14) (R 16) (R 22) (R 23) ∧
  SimP s0 V n (M 169) (M 171) (M 173) (R 1 0) (R 0 17) (R 3 0) (R 2 0) (R 4) ∧ SimJ s0 V n jc pd (M 174) J G K e (R 1 0) (R 0 18) (R 12) (R 13) (R 14) (R 15) ∧ SimV V (n + pd) ∧
  SimS s0 V n 1 (M 202) (M 204) (M 206) (R 0 0) (R 0 1) (R 0 2) (R 1) (R 2) (R 3) (R 4) (R 6) (R 7) (R 8) ∧ SimS s0 V n 2 (M 207) (M 209) (M 211) (R 0 0) (R 0 1) (R 0 2) (R 1) (R 2) (R 3) (R 4) (R 6) (R 7) (R 8) ∧
  SimM F I w c (M 6) (R 0 24) (rlist R c) ∧
  SimT s0 V n 1 (M 202) (M 204) (M 206) (R 1 0) (R 6 1) (R 5) ((mlist F I w c).filter (ofS 1)) ∧ SimT s0 V n 2 (M 207) (M 209) (M 211) (R 1 0) (R 6 2) (R 5) ((mlist F I w c).filter (ofS 2))
def SimXW (s0 : Int32) (V : Nat → Nat → Bool) (n c jc pd : Nat) (M F I J G K : Nat → Nat → Int32) (w e : Nat → Nat) (R : Nat → Nat → Int32) : Prop :=
  SimA (M 0) (M 1) (M 2) (R 0 3) (R 9) (R 10) ∧ (R 0 14 = 0 ∧ R 0 15 = 0) ∧ SimB (R 4) (R 5) (R 13) (R 14) (R 16) (R 22) (R 23) ∧
  SimP s0 V n (M 169) (M 171) (M 173) (R 1 0) (R 0 17) (R 3 0) (R 2 0) (R 4) ∧ SimJ s0 V n jc pd (M 174) J G K e (R 1 0) (R 0 18) (R 12) (R 13) (R 14) (R 15) ∧ SimV V (n + pd) ∧
  SimS s0 V n 1 (M 202) (M 204) (M 206) (R 0 0) (R 0 1) (R 0 2) (R 1) (R 2) (R 3) (R 4) (R 6) (R 7) (R 8) ∧ SimS s0 V n 2 (M 207) (M 209) (M 211) (R 0 0) (R 0 1) (R 0 2) (R 1) (R 2) (R 3) (R 4) (R 6) (R 7) (R 8) ∧
  SimM F I w c (M 6) (R 0 24) (rlist R c)
def SimIW (s0 : Int32) (V : Nat → Nat → Bool) (n c jc : Nat) (M F I J G K : Nat → Nat → Int32) (w e : Nat → Nat) (R : Nat → Nat → Int32) : Prop :=
  SimA (M 0) (M 1) (M 2) (R 0 3) (R 9) (R 10) ∧ (R 0 14 = 0 ∧ R 0 15 = 0) ∧ SimB (R 4) (R 5) (R 13) (R 14) (R 16) (R 22) (R 23) ∧
  SimP s0 V n (M 169) (M 171) (M 173) (R 1 0) (R 0 17) (R 3 0) (R 2 0) (R 4) ∧ SimJ s0 V n jc 1 (M 174) J G K e 0 (R 0 18) (R 12) (R 13) (R 14) (R 15) ∧ R 13 (jc - 1) = 1 ∧ SimV V (n + 1) ∧
  SimS s0 V n 1 (M 202) (M 204) (M 206) (R 0 0) (R 0 1) (R 0 2) (R 1) (R 2) (R 3) (R 4) (R 6) (R 7) (R 8) ∧ SimS s0 V n 2 (M 207) (M 209) (M 211) (R 0 0) (R 0 1) (R 0 2) (R 1) (R 2) (R 3) (R 4) (R 6) (R 7) (R 8) ∧
  SimM F I w c (M 6) (R 0 24) (rlist R c) ∧
  SimT s0 V n 1 (M 202) (M 204) (M 206) (R 1 0) (R 6 1) (R 5) ((mlist F I w c).filter (ofS 1)) ∧ SimT s0 V n 2 (M 207) (M 209) (M 211) (R 1 0) (R 6 2) (R 5) ((mlist F I w c).filter (ofS 2))
section ZSIMQ
variable {A B : Nat} {X Y : zh_T} {M F I J G K M1 F1 I1 : Nat → Nat → Int32} {w e w1 : Nat → Nat} {R R1 : Nat → Nat → Int32} {N n c jc pd c1 : Nat} {s0 : Int32} {V : Nat → Nat → Bool}
theorem Wsim_m (h : SimW s0 V n c jc pd M F I J G K w e R) : SimM F I w c (M 6) (R 0 24) (rlist R c) := h.2.2.2.2.2.2.2.2.1
theorem Wsim_p (h : SimW s0 V n c jc pd M F I J G K w e R) : SimP s0 V n (M 169) (M 171) (M 173) (R 1 0) (R 0 17) (R 3 0) (R 2 0) (R 4) := h.2.2.2.1
theorem Wsim_b (h : SimW s0 V n c jc pd M F I J G K w e R) : SimB (R 4) (R 5) (R 13) (R 14) (R 16) (R 22) (R 23) := h.2.2.1
theorem WSim_msgs (h : SimW s0 V n c jc pd M F I J G K w e R) (hM : ∀ k, k ≠ 6 → M1 k = M k) (hR : rfr R R1) (hSM : SimM F1 I1 w1 c1 (M1 6) (R1 0 24) (rlist R1 c1))
    (hT1 : SimT s0 V n 1 (M 202) (M 204) (M 206) (R 1 0) (R 6 1) (R 5) ((mlist F1 I1 w1 c1).filter (ofS 1))) (hT2 : SimT s0 V n 2 (M 207) (M 209) (M 211) (R 1 0) (R 6 2) (R 5) ((mlist F1 I1 w1 c1).filter (ofS 2))) : SimW s0 V n c1 jc pd M1 F1 I1 J G K w1 e R1 := by
  obtain ⟨hA, hD, ⟨b1, b2, b3, b4, b5, -, -⟩, hP, hJ, hV, hS1, hS2, -, -, -⟩ := h
  obtain ⟨r1, r2, r22, r23⟩ := hR
  unfold SimW
  rw [hM 0 (by decide), hM 1 (by decide), hM 2 (by decide), hM 169 (by decide), hM 171 (by decide), hM 173 (by decide), hM 174 (by decide), hM 202 (by decide), hM 204 (by decide), hM 206 (by decide), hM 207 (by decide), hM 209 (by decide), hM 211 (by decide)]
  rw [r2 3 (by decide), r2 14 (by decide), r2 15 (by decide), r2 17 (by decide), r2 18 (by decide), r2 0 (by decide), r2 1 (by decide), r2 2 (by decide)]
  rw [r1 1 (by decide) (by decide), r1 2 (by decide) (by decide), r1 3 (by decide) (by decide), r1 4 (by decide) (by decide), r1 5 (by decide) (by decide), r1 6 (by decide) (by decide), r1 7 (by decide) (by decide), r1 8 (by decide) (by decide), r1 9 (by decide) (by decide), r1 10 (by decide) (by decide), r1 12 (by decide) (by decide), r1 13 (by decide) (by decide), r1 14 (by decide) (by decide), r1 15 (by decide) (by decide), r1 16 (by decide) (by decide)]
  exact ⟨hA, hD, ⟨b1, b2, b3, b4, b5, r22, r23⟩, hP, hJ, hV, hS1, hS2, hSM, hT1, hT2⟩
theorem Wsim_t1 (h : SimW s0 V n c jc pd M F I J G K w e R) : SimT s0 V n 1 (M 202) (M 204) (M 206) (R 1 0) (R 6 1) (R 5) ((mlist F I w c).filter (ofS 1)) := h.2.2.2.2.2.2.2.2.2.1
theorem Wsim_t2 (h : SimW s0 V n c jc pd M F I J G K w e R) : SimT s0 V n 2 (M 207) (M 209) (M 211) (R 1 0) (R 6 2) (R 5) ((mlist F I w c).filter (ofS 2)) := h.2.2.2.2.2.2.2.2.2.2
/-- a message that may be lost is sent: SimW goes on -/
theorem WSim_send (h : SimW s0 V n c jc pd M F I J G K w e R) {kd s sr : Int32} (hk : kd = 1 ∨ kd = 2 ∨ kd = 3) (hs : s = 1 ∨ s = 2) (hN : 300 < N) :
    ∃ c' F' M' R', f_Wire_sendLossy N (zC A X M F I J G K w e) (A + 6) kd s sr = some ((), zC A X M' F' I J G K w e) ∧ f_ZoneNodesModel_send N (zR B Y R) B kd s sr = some ((), zR B Y R') ∧ rfr R R' ∧ (∀ k, k ≠ 6 → M' k = M k) ∧ (∀ x : Int32, (mlist F' I w c').filter (ofS x) = (mlist F I w c).filter (ofS x)) ∧ SimW s0 V n c' jc pd M' F' I J G K w e R' := by
  have hb := Wsim_b h
  obtain ⟨c', F', M', R', q1, q2, q3, q4, q5, q6⟩ := o_send (N := N) (A := A) (B := B) (X := X) (Y := Y) (M := M) (J := J) (G := G) (K := K) (e := e) (sr := sr) rfl rfl (Wsim_m h) hb.2.2.2.2.2.1 hb.2.2.2.2.2.2 (simT_len (Wsim_t1 h)) (simT_len (Wsim_t2 h)) hk hs hN
  refine ⟨c', F', M', R', q1, q2, q3, q4, q6, WSim_msgs h q4 q3 q5 ?_ ?_⟩
  · rw [q6]
    exact Wsim_t1 h
  · rw [q6]
    exact Wsim_t2 h
/-- NOTIFYs to both secondaries -/
theorem WSim_notify (h : SimW s0 V n c jc pd M F I J G K w e R) (hN : 300 < N) : ∃ c' F' M' R', f_ZoneNodes_notifySecondaries N (zC A X M F I J G K w e) A = some ((), zC A X M' F' I J G K w e) ∧ f_ZoneNodesModel_notifyBoth N (zR B Y R) B = some ((), zR B Y R') ∧ rfr R R' ∧ (∀ k, k ≠ 6 → M' k = M k) ∧ SimW s0 V n c' jc pd M' F' I J G K w e R' := by
  obtain ⟨f, hf⟩ : ∃ f, N = f + 1 + 1 + 1 := ⟨N - 3, by omega⟩
  obtain ⟨c1, F1, M1, R1, a1, a2, a3, a4, -, a6⟩ := WSim_send (N := N) (A := A) (X := X) (B := B) (Y := Y) (kd := 1) (s := 1) (sr := R 3 0) h (Or.inl rfl) (Or.inl rfl) hN
  obtain ⟨c2, F2, M2, R2, b1, b2, b3, b4, -, b6⟩ := WSim_send (N := N) (A := A) (X := X) (B := B) (Y := Y) (kd := 1) (s := 2) (sr := R 3 0) a6 (Or.inl rfl) (Or.inr rfl) hN
  have s1 : M 169 6 = R 3 0 := (Wsim_p h).2.2.2.2.1
  have s2 : M1 169 6 = R 3 0 := by rw [a4 169 (by decide), s1]
  have r3 : R1 3 = R 3 := a3.1 3 (by decide) (by decide)
  have z0 : zai (zR B Y R) (B + 3) 0 = some (R 3 0) := ra3 (i := 0) (by decide)
  have z1 : zai (zR B Y R1) (B + 3) 0 = some (R 3 0) := by
    have := ra3 (B := B) (Y := Y) (R := R1) (i := 0) (by decide)
    rw [r3] at this
    exact this
  refine ⟨c2, F2, M2, R2, ?_, ?_, a3.trans b3, fun k hk => (b4 k hk).trans (a4 k hk), b6⟩
  · unfold f_ZoneNodes_notifySecondaries
    rw [show L_ZoneNodes_notifySecondaries_2 N A N = L_ZoneNodes_notifySecondaries_2 N A (f + 1 + 1 + 1) from by rw [← hf]]
    rw [L_ZoneNodes_notifySecondaries_2, if_neg (by decide), cr0_3, zb1_some, cr0_4, zb1_some, cg169_6, zb1_some, ck6, zb1_some, s1, a1, zb2_some]
    rw [L_ZoneNodes_notifySecondaries_2, if_neg (by decide), cr0_3, zb1_some, cr0_4, zb1_some, cg169_6, zb1_some, ck6, zb1_some, s2, show (1 : Int32) + 1 = 2 by decide, b1, zb2_some]
    rw [L_ZoneNodes_notifySecondaries_2, if_pos (by decide), zb2_some]
  · unfold f_ZoneNodesModel_notifyBoth
    rw [rr6, zb1_some, z0, zb1_some, rck, zb1_some, a2, zb2_some, rr6, zb1_some, z1, zb1_some, rck, zb1_some, b2, zb2_some]
theorem WSimX_of (h : SimW s0 V n c jc pd M F I J G K w e R) : SimXW s0 V n c jc pd M F I J G K w e R := by
  obtain ⟨hA, hD, hB, hP, hJ, hV, hS1, hS2, hM, -, -⟩ := h
  exact ⟨hA, hD, hB, hP, hJ, hV, hS1, hS2, hM⟩
theorem WSimX_to (h : SimXW s0 V n c jc pd M F I J G K w e R) (h1 : SimT s0 V n 1 (M 202) (M 204) (M 206) (R 1 0) (R 6 1) (R 5) ((mlist F I w c).filter (ofS 1))) (h2 : SimT s0 V n 2 (M 207) (M 209) (M 211) (R 1 0) (R 6 2) (R 5) ((mlist F I w c).filter (ofS 2))) : SimW s0 V n c jc pd M F I J G K w e R := by
  obtain ⟨hA, hD, hB, hP, hJ, hV, hS1, hS2, hM⟩ := h
  exact ⟨hA, hD, hB, hP, hJ, hV, hS1, hS2, hM, h1, h2⟩
theorem WSimX_msgs (h : SimXW s0 V n c jc pd M F I J G K w e R) (hM : ∀ k, k ≠ 6 → M1 k = M k) (hR : rfr R R1) (hSM : SimM F1 I1 w1 c1 (M1 6) (R1 0 24) (rlist R1 c1)) : SimXW s0 V n c1 jc pd M1 F1 I1 J G K w1 e R1 := by
  obtain ⟨hA, hD, ⟨b1, b2, b3, b4, b5, -, -⟩, hP, hJ, hV, hS1, hS2, -⟩ := h
  obtain ⟨r1, r2, r22, r23⟩ := hR
  unfold SimXW
  rw [hM 0 (by decide), hM 1 (by decide), hM 2 (by decide), hM 169 (by decide), hM 171 (by decide), hM 173 (by decide), hM 174 (by decide), hM 202 (by decide), hM 204 (by decide), hM 206 (by decide), hM 207 (by decide), hM 209 (by decide), hM 211 (by decide)]
  rw [r2 3 (by decide), r2 14 (by decide), r2 15 (by decide), r2 17 (by decide), r2 18 (by decide), r2 0 (by decide), r2 1 (by decide), r2 2 (by decide)]
  rw [r1 1 (by decide) (by decide), r1 2 (by decide) (by decide), r1 3 (by decide) (by decide), r1 4 (by decide) (by decide), r1 5 (by decide) (by decide), r1 6 (by decide) (by decide), r1 7 (by decide) (by decide), r1 8 (by decide) (by decide), r1 9 (by decide) (by decide), r1 10 (by decide) (by decide), r1 12 (by decide) (by decide), r1 13 (by decide) (by decide), r1 14 (by decide) (by decide), r1 15 (by decide) (by decide), r1 16 (by decide) (by decide)]
  exact ⟨hA, hD, ⟨b1, b2, b3, b4, b5, r22, r23⟩, hP, hJ, hV, hS1, hS2, hSM⟩
/-- a stream ends, on both sides -/
theorem WSimX_cut (h : SimXW s0 V n c jc pd M F I J G K w e R) (s : Int32) (hN : 300 < N) : ∃ c' M' w' R', f_Wire_endStreamOf N (zC A X M F I J G K w e) (A + 6) s = some ((), zC A X M' F I J G K w' e) ∧ f_ZoneNodesModel_cutOff N (zR B Y R) B s = some ((), zR B Y R') ∧ rfr R R' ∧ (∀ k, k ≠ 6 → M' k = M k) ∧ (mlist F I w' c').filter (ofS s) = [] ∧ (∀ x, x ≠ s → (mlist F I w' c').filter (ofS x) = (mlist F I w c).filter (ofS x)) ∧ SimXW s0 V n c' jc pd M' F I J G K w' e R' := by
  have hM : SimM F I w c (M 6) (R 0 24) (rlist R c) := h.2.2.2.2.2.2.2.2
  have hb : SimB (R 4) (R 5) (R 13) (R 14) (R 16) (R 22) (R 23) := h.2.2.1
  obtain ⟨m1, m2, m3, m4, -⟩ := hM
  have hM : SimM F I w c (M 6) (R 0 24) (rlist R c) := h.2.2.2.2.2.2.2.2
  obtain ⟨c1, w1, a1, a2, a3, a4⟩ := s_endStream (N := N) (A := A) (X := X) (F := F) (I := I) (J := J) (G := G) (K := K) (e := e) s m2 m1 m4 (by omega)
  obtain ⟨c2, R2, b1, b2, b3, b4, b5⟩ := k_cutOff (N := N) (B := B) (Y := Y) s m3 (by omega) hb.2.2.2.2.2.1 hb.2.2.2.2.2.2 (by omega)
  obtain ⟨e1, q⟩ := simM_cut s hM a2 a3 a4 b3 b5
  subst e1
  have f1 : (mlist F I w1 c2).filter (ofS s) = [] := by
    rw [a4, List.filter_filter]
    have : (fun m => ofS s m && !ofS s m) = fun _ => false := by
      funext m
      cases ofS s m <;> rfl
    rw [this]
    simp
  have f2 : ∀ x, x ≠ s → (mlist F I w1 c2).filter (ofS x) = (mlist F I w c).filter (ofS x) := by
    intro x hx
    rw [a4, List.filter_filter]
    congr 1
    funext m
    unfold ofS
    cases onS m with
    | false => rfl
    | true =>
      by_cases z : m.1 2 = x
      · rw [decide_eq_true z, decide_eq_false (show ¬ m.1 2 = s from fun y => hx (z.symm.trans y))]
        rfl
      · rw [decide_eq_false z]
        rfl
  refine ⟨c2, _, w1, R2, a1, b1, b4, fun k hk => zu_ne _ hk, f1, f2, WSimX_msgs h (fun k hk => zu_ne _ hk) b4 ?_⟩
  rw [zu_same, b2]
  exact q
/-- the stream of secondary 1 is lost as the primary goes down -/
theorem WSimX_lose1 (h : SimXW s0 V n c jc pd M F I J G K w e R) : ∃ M' R', f_Secondary_loseStream N (zC A X M F I J G K w e) (A + 202) (R 0 3) = some ((), zC A X M' F I J G K w e) ∧
    (∀ g : zh_T → Option (Unit × zh_T), (zb1 (zaz (zR B Y R) (B + 1) (ni 1)) fun v27 => if v27 = 0 then g (zR B Y R) else zb1 (zgr (zR B Y R) B 9 9) fun a31 => zb1 (zai (zR B Y R) a31 (ni 1)) fun v32 => if v32 = 2 then zb1 (zgi (zR B Y R) B 9 1) fun v36 => zb1 (zck (zR B Y R) B 9) fun _ => zb2 (f_ZoneNodesModel_rest N (zR B Y R) B (ni 1) v36) fun _ X40 => g X40 else g (zR B Y R)) = g (zR B Y R')) ∧
    R' 0 3 = R 0 3 ∧ SimXW s0 V n c jc pd M' F I J G K w e R' := by
  obtain ⟨hA, hD, hB, hP, hJ, hV, hS1, hS2, hM⟩ := h
  obtain ⟨c0, c1, c2, c3, c4, c5, c6, c7, c8, c9, c10, c11, c12, c13⟩ := hS1
  rcases c5 with u | u
  · by_cases h9 : M 202 9 = 2
    · refine ⟨_, R, s_loseStream (Or.inl rfl) _, fun g => by rw [ra1 (i := 1) (by decide), zb1_some, u, if_pos rfl], rfl, ?_⟩
      rw [if_pos h9]
      exact ⟨hA, hD, hB, hP, hJ, hV, ⟨c0, c1, c2, c3, c4, Or.inl u, c6, c7, c8, c9, fun z => absurd (u.symm.trans z) (by decide), c11, c12, c13⟩, hS2, hM⟩
    · refine ⟨_, R, s_loseStream (Or.inl rfl) _, fun g => by rw [ra1 (i := 1) (by decide), zb1_some, u, if_pos rfl], rfl, ?_⟩
      rw [if_neg h9]
      exact ⟨hA, hD, hB, hP, hJ, hV, ⟨c0, c1, c2, c3, c4, Or.inl u, c6, c7, c8, c9, c10, c11, c12, c13⟩, hS2, hM⟩
  · obtain ⟨p9, p10, p11⟩ := c10 u
    by_cases h9 : R 6 1 = 2
    · refine ⟨_, zu (zu R 6 (upd (R 6) 1 0)) 7 (upd (R 7) 1 (R 0 3 + R 0 1)), s_loseStream (Or.inl rfl) _, fun g => by rw [ra1 (i := 1) (by decide), zb1_some, u, if_neg n10, rr9, zb1_some, ra6 (i := 1) (by decide), zb1_some, h9, if_pos rfl, rg1, zb1_some, rck, zb1_some, k_rest (by decide), zb2_some], rfl, ?_⟩
      rw [if_pos (p9.trans h9)]
      have hnew : SimS s0 V n 1 (secRest (M 202) (R 0 3 + M 202 2)) (M 204) (M 206) (R 0 0) (R 0 1) (R 0 2) (R 1) (R 2) (R 3) (R 4) (upd (R 6) 1 0) (upd (R 7) 1 (R 0 3 + R 0 1)) (R 8) :=
        ⟨c0, c1, c2, c3, c4, Or.inr u, c6, c7, c8, c9, fun _ => ⟨rfl, fun _ => by show R 0 3 + M 202 2 = R 0 3 + R 0 1; rw [c2], fun z => absurd z (show ¬ (0 : Int32) = 1 by decide)⟩, c11, c12, c13⟩
      exact ⟨hA, hD, hB, hP, hJ, hV, hnew, hS2, hM⟩
    · refine ⟨_, R, s_loseStream (Or.inl rfl) _, fun g => by rw [ra1 (i := 1) (by decide), zb1_some, u, if_neg n10, rr9, zb1_some, ra6 (i := 1) (by decide), zb1_some, if_neg h9], rfl, ?_⟩
      rw [if_neg (show ¬ M 202 9 = 2 from fun q => h9 (p9.symm.trans q))]
      exact ⟨hA, hD, hB, hP, hJ, hV, ⟨c0, c1, c2, c3, c4, Or.inr u, c6, c7, c8, c9, c10, c11, c12, c13⟩, hS2, hM⟩
/-- the stream of secondary 2 is lost as the primary goes down -/
theorem WSimX_lose2 (h : SimXW s0 V n c jc pd M F I J G K w e R) : ∃ M' R', f_Secondary_loseStream N (zC A X M F I J G K w e) (A + 207) (R 0 3) = some ((), zC A X M' F I J G K w e) ∧
    (∀ g : zh_T → Option (Unit × zh_T), (zb1 (zaz (zR B Y R) (B + 1) (ni 2)) fun v27 => if v27 = 0 then g (zR B Y R) else zb1 (zgr (zR B Y R) B 9 9) fun a31 => zb1 (zai (zR B Y R) a31 (ni 2)) fun v32 => if v32 = 2 then zb1 (zgi (zR B Y R) B 9 1) fun v36 => zb1 (zck (zR B Y R) B 9) fun _ => zb2 (f_ZoneNodesModel_rest N (zR B Y R) B (ni 2) v36) fun _ X40 => g X40 else g (zR B Y R)) = g (zR B Y R')) ∧
    R' 0 3 = R 0 3 ∧ SimXW s0 V n c jc pd M' F I J G K w e R' := by
  obtain ⟨hA, hD, hB, hP, hJ, hV, hS1, hS2, hM⟩ := h
  obtain ⟨c0, c1, c2, c3, c4, c5, c6, c7, c8, c9, c10, c11, c12, c13⟩ := hS2
  rcases c5 with u | u
  · by_cases h9 : M 207 9 = 2
    · refine ⟨_, R, s_loseStream (Or.inr rfl) _, fun g => by rw [ra1 (i := 2) (by decide), zb1_some, u, if_pos rfl], rfl, ?_⟩
      rw [if_pos h9]
      exact ⟨hA, hD, hB, hP, hJ, hV, hS1, ⟨c0, c1, c2, c3, c4, Or.inl u, c6, c7, c8, c9, fun z => absurd (u.symm.trans z) (by decide), c11, c12, c13⟩, hM⟩
    · refine ⟨_, R, s_loseStream (Or.inr rfl) _, fun g => by rw [ra1 (i := 2) (by decide), zb1_some, u, if_pos rfl], rfl, ?_⟩
      rw [if_neg h9]
      exact ⟨hA, hD, hB, hP, hJ, hV, hS1, ⟨c0, c1, c2, c3, c4, Or.inl u, c6, c7, c8, c9, c10, c11, c12, c13⟩, hM⟩
  · obtain ⟨p9, p10, p11⟩ := c10 u
    by_cases h9 : R 6 2 = 2
    · refine ⟨_, zu (zu R 6 (upd (R 6) 2 0)) 7 (upd (R 7) 2 (R 0 3 + R 0 1)), s_loseStream (Or.inr rfl) _, fun g => by rw [ra1 (i := 2) (by decide), zb1_some, u, if_neg n10, rr9, zb1_some, ra6 (i := 2) (by decide), zb1_some, h9, if_pos rfl, rg1, zb1_some, rck, zb1_some, k_rest (by decide), zb2_some], rfl, ?_⟩
      rw [if_pos (p9.trans h9)]
      have hnew : SimS s0 V n 2 (secRest (M 207) (R 0 3 + M 207 2)) (M 209) (M 211) (R 0 0) (R 0 1) (R 0 2) (R 1) (R 2) (R 3) (R 4) (upd (R 6) 2 0) (upd (R 7) 2 (R 0 3 + R 0 1)) (R 8) :=
        ⟨c0, c1, c2, c3, c4, Or.inr u, c6, c7, c8, c9, fun _ => ⟨rfl, fun _ => by show R 0 3 + M 207 2 = R 0 3 + R 0 1; rw [c2], fun z => absurd z (show ¬ (0 : Int32) = 1 by decide)⟩, c11, c12, c13⟩
      exact ⟨hA, hD, hB, hP, hJ, hV, hS1, hnew, hM⟩
    · refine ⟨_, R, s_loseStream (Or.inr rfl) _, fun g => by rw [ra1 (i := 2) (by decide), zb1_some, u, if_neg n10, rr9, zb1_some, ra6 (i := 2) (by decide), zb1_some, if_neg h9], rfl, ?_⟩
      rw [if_neg (show ¬ M 207 9 = 2 from fun q => h9 (p9.symm.trans q))]
      exact ⟨hA, hD, hB, hP, hJ, hV, hS1, ⟨c0, c1, c2, c3, c4, Or.inr u, c6, c7, c8, c9, c10, c11, c12, c13⟩, hM⟩
theorem WSim_down (h : SimXW s0 V n c jc pd (zu (zu M 169 (upd (M 169) 8 0)) 169 (upd ((zu M 169 (upd (M 169) 8 0)) 169) 7 0)) F I J G K w e (zu (zu R 1 (upd (R 1) 0 0)) 0 (upd ((zu R 1 (upd (R 1) 0 0)) 0) 17 0))) (hu : R 1 0 = 1) (hN : 300 < N) :
    ∃ c' M' w' R', f_ZoneNodes_takePrimaryDown N (zC A X M F I J G K w e) A = some ((), zC A X M' F I J G K w' e) ∧ f_ZoneNodesModel_crash N (zR B Y R) B (ni 0) = some (1, zR B Y R') ∧ SimW s0 V n c' jc pd M' F I J G K w' e R' := by
  obtain ⟨f, hf⟩ : ∃ f, N = f + 1 + 1 + 1 := ⟨N - 3, by omega⟩
  obtain ⟨c1, M1, w1, R1, a1, a2, a3, a4, a5, a6, a7⟩ := WSimX_cut (N := N) (A := A) (X := X) (B := B) (Y := Y) h (ni 1) hN
  have k1 : M1 0 6 = R1 0 3 := a7.1.1
  obtain ⟨M2, R2, b1, b2, b3, b4⟩ := WSimX_lose1 (N := N) (A := A) (X := X) (B := B) (Y := Y) a7
  obtain ⟨c3, M3, w3, R3, d1, d2, d3, d4, d5, d6, d7⟩ := WSimX_cut (N := N) (A := A) (X := X) (B := B) (Y := Y) b4 (ni 2) hN
  have k3 : M3 0 6 = R3 0 3 := d7.1.1
  obtain ⟨M4, R4, e1, e2, e3, e4⟩ := WSimX_lose2 (N := N) (A := A) (X := X) (B := B) (Y := Y) d7
  have t1 : (mlist F I w3 c3).filter (ofS 1) = [] := by
    rw [d6 1 (by decide)]
    exact a5
  refine ⟨c3, M4, w3, R4, ?_, ?_, WSimX_to e4 (Or.inl t1) (Or.inl d5)⟩
  · unfold f_ZoneNodes_takePrimaryDown
    rw [cr0_4, zb1_some, cz169_8 (Or.inl rfl), zb1_some, cr0_4, zb1_some, cp169_7, zb1_some]
    rw [show L_ZoneNodes_takePrimaryDown_18 N A N = L_ZoneNodes_takePrimaryDown_18 N A (f + 1 + 1 + 1) from by rw [← hf]]
    rw [L_ZoneNodes_takePrimaryDown_18, if_neg (by decide), cr0_3, zb1_some, ck6, zb1_some, show (0 : Int32) + 1 = ni 1 from rfl, a1, zb2_some, cr0_5, zb1_some, show (0 : Int32) = ni 0 from rfl, x_ar0, zb1_some, cg0_6, zb1_some, ck202, zb1_some, k1, b1, zb2_some]
    rw [L_ZoneNodes_takePrimaryDown_18, if_neg (by decide), cr0_3, zb1_some, ck6, zb1_some, show ni 1 + 1 = ni 2 from rfl, d1, zb2_some, cr0_5, zb1_some, x_ar1, zb1_some, cg0_6, zb1_some, ck207, zb1_some, k3, e1, zb2_some]
    rw [L_ZoneNodes_takePrimaryDown_18, if_pos (by decide), zb2_some]
  · unfold f_ZoneNodesModel_crash
    rw [k_isNode, zb1_some, if_pos (show (0 : Int32) ≤ ni 0 ∧ ni 0 ≤ 2 by decide), if_neg n10, rr4, zb1_some, ra1 (i := 0) (by decide), zb1_some, hu, if_neg n10, zb1_some, rs1 (i := 0) (by decide) (Or.inl rfl), zb1_some, if_pos z00, rq17, zb1_some, z00]
    rw [show L_ZoneNodesModel_crash_43 N B 0 N = L_ZoneNodesModel_crash_43 N B 0 (f + 1 + 1 + 1) from by rw [← hf]]
    rw [L_ZoneNodesModel_crash_43, if_neg (by decide), if_pos rfl, rck, zb1_some, show (1 : Int32) = ni 1 from rfl, a2, zb2_some, if_pos rfl, rr4, zb1_some, b2 fun Z => L_ZoneNodesModel_crash_43 N B 0 (f + 1 + 1) Z (ni 1 + ni 1)]
    rw [L_ZoneNodesModel_crash_43, if_neg (by decide), if_pos rfl, rck, zb1_some, show ni 1 + ni 1 = ni 2 from rfl, d2, zb2_some, if_pos rfl, rr4, zb1_some, show (1 : Int32) = ni 1 from rfl, e2 fun Z => L_ZoneNodesModel_crash_43 N B 0 (f + 1) Z (ni 2 + ni 1)]
    rw [L_ZoneNodesModel_crash_43, if_pos (by decide), zb2_some]
theorem WSim_inst (h : SimIW s0 V n c jc M F I J G K w e R) (hN : 1100 < N) : ∃ jc' R', f_ZoneNodesModel_install N (zR B Y R) B = f_ZoneNodesModel_notifyBoth N (zR B Y R') B ∧ SimW s0 V (n + 1) c jc' 0 (inM M J G K e jc) F I J G K w (inE e jc) R' := by
  obtain ⟨hA, hD, ⟨b1, b2, b3, b4, b5, b6, b7⟩, hP, hJ, hm, hV, hS1, hS2, hM, hT1, hT2⟩ := h
  have hJ' := hJ
  obtain ⟨-, j2, j3, j4, -, j6, j7, j8, j9⟩ := hJ'
  have hk := k_inst (N := N) (B := B) (Y := Y) j7 (by omega) (by omega) b3 b4 hN
  have hP' := simP_inst hP hJ
  have r4 : ∀ s, 1 ≤ s → ∀ q, q < 256 → cpR (R 4) (R 14) 0 (256 * (jc - 1)) 0 256 (256 * s + q) = R 4 (256 * s + q) := fun s hs q hq => cpR_out _ _ (Or.inr (by omega))
  have bb4 : b01 (cpR (R 4) (R 14) 0 (256 * (jc - 1)) 0 256) 768 := cpR_b01 b1 b4 (by omega)
  by_cases h5 : jc = 5
  · subst h5
    rw [if_pos rfl] at hk
    refine ⟨4, inR5 R, hk, ?_⟩
    have hJ5 := simJ_inst5 hJ hm (R 1 0)
    have eM : inM M J G K e 5 = zu (prL M J G K (e (5 - 1))) 174 (upd (M 174) 1 4) := if_pos rfl
    have eE : inE e 5 = rot e 0 4 := if_pos rfl
    rw [eM, eE]
    have bb14 : b01 (fun j => if 0 ≤ j ∧ j < 1024 then R 14 (j + 256) else R 14 j) 1536 := by
      intro i hi
      show (if 0 ≤ i ∧ i < 1024 then R 14 (i + 256) else R 14 i) = 0 ∨ (if 0 ≤ i ∧ i < 1024 then R 14 (i + 256) else R 14 i) = 1
      split
      · exact b4 (i + 256) (by omega)
      · exact b4 i hi
    exact ⟨hA, hD, ⟨bb4, b2, shI_b01 b3, bb14, b5, b6, b7⟩, hP', hJ5, hV, SimS_next hS1 rfl (r4 1 (by omega)), SimS_next hS2 rfl (r4 2 (by omega)), hM, SimT_next hT1, SimT_next hT2⟩
  · rw [if_neg h5] at hk
    refine ⟨jc, inR R jc, hk, ?_⟩
    have hJ4 := simJ_inst4 hJ hm (by omega) (R 1 0)
    have eM : inM M J G K e jc = prL M J G K (e (jc - 1)) := if_neg h5
    have eE : inE e jc = e := if_neg h5
    rw [eM, eE]
    exact ⟨hA, hD, ⟨bb4, b2, b3, b4, b5, b6, b7⟩, hP', hJ4, hV, SimS_next hS1 rfl (r4 1 (by omega)), SimS_next hS2 rfl (r4 2 (by omega)), hM, SimT_next hT1, SimT_next hT2⟩
/-- the draft emptied at the end -/
theorem SimW_to (h : SimW s0 V n c jc pd M F I J G K w e R) : Sim s0 V n c jc pd (zu M 3 (upd (upd (M 3) 2 0) 3 0)) F I J G K w e R := by
  obtain ⟨hA, ⟨d1, d2⟩, hB, hP, hJ, hV, hS1, hS2, hM, hT1, hT2⟩ := h
  have hD : SimD (upd (upd (M 3) 2 0) 3 0) (M 4) (M 5) (R 0 14) (R 0 15) (R 11) := ⟨0, 0, fun _ => (0, 0, 0, 0), fun _ => (0, 0, 0, 0), by omega, by omega, rfl, d1, rfl, d2, fun i hi => absurd hi (by omega), fun i hi => absurd hi (by omega)⟩
  exact ⟨hA, hD, hB, hP, hJ, hV, hS1, hS2, hM, hT1, hT2⟩
end ZSIMQ
