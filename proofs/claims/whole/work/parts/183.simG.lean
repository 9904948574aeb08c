/-! a node goes down: what holds but for the streams -/
def SimX (s0 : Int32) (V : Nat → Nat → Bool) (n c jc pd : Nat) (M F I J G K : Nat → Nat → Int32) (w e : Nat → Nat) (R : Nat → Nat → Int32) : Prop :=
  SimA (M 0) (M 1) (M 2) (R 0 3) (R 9) (R 10) ∧ SimD (M 3) (M 4) (M 5) (R 0 14) (R 0 15) (R 11) ∧ SimB (R 4) (R 5) (R 13) (R 14) (R 16) (R 22) (R 23) ∧
  SimP s0 V n (M 169) (M 171) (M 173) (R 1 0) (R 0 17) (R 3 0) (R 2 0) (R 4) ∧ SimJ s0 V n jc pd (M 174) J G K e (R 1 0) (R 0 18) (R 12) (R 13) (R 14) (R 15) ∧ SimV V (n + pd) ∧
  SimS s0 V n 1 (M 202) (M 204) (M 206) (R 0 0) (R 0 1) (R 0 2) (R 1) (R 2) (R 3) (R 4) (R 6) (R 7) (R 8) ∧ SimS s0 V n 2 (M 207) (M 209) (M 211) (R 0 0) (R 0 1) (R 0 2) (R 1) (R 2) (R 3) (R 4) (R 6) (R 7) (R 8) ∧
  SimM F I w c (M 6) (R 0 24) (rlist R c)
section ZSIMG
variable {A B : Nat} {X Y : zh_T} {M F I J G K M1 F1 I1 : Nat → Nat → Int32} {w e w1 : Nat → Nat} {R R1 : Nat → Nat → Int32} {N n c jc pd c1 : Nat} {s0 : Int32} {V : Nat → Nat → Bool}
theorem SimX_of (h : Sim s0 V n c jc pd M F I J G K w e R) : SimX s0 V n c jc pd M F I J G K w e R := by
  obtain ⟨hA, hD, hB, hP, hJ, hV, hS1, hS2, hM, -, -⟩ := h
  exact ⟨hA, hD, hB, hP, hJ, hV, hS1, hS2, hM⟩
theorem SimX_to (h : SimX s0 V n c jc pd M F I J G K w e R) (h1 : SimT s0 V n 1 (M 202) (M 204) (M 206) (R 1 0) (R 6 1) (R 5) ((mlist F I w c).filter (ofS 1))) (h2 : SimT s0 V n 2 (M 207) (M 209) (M 211) (R 1 0) (R 6 2) (R 5) ((mlist F I w c).filter (ofS 2))) : Sim s0 V n c jc pd M F I J G K w e R := by
  obtain ⟨hA, hD, hB, hP, hJ, hV, hS1, hS2, hM⟩ := h
  exact ⟨hA, hD, hB, hP, hJ, hV, hS1, hS2, hM, h1, h2⟩
theorem SimX_msgs (h : SimX s0 V n c jc pd M F I J G K w e R) (hM : ∀ k, k ≠ 6 → M1 k = M k) (hR : rfr R R1) (hSM : SimM F1 I1 w1 c1 (M1 6) (R1 0 24) (rlist R1 c1)) : SimX s0 V n c1 jc pd M1 F1 I1 J G K w1 e R1 := by
  obtain ⟨hA, hD, ⟨b1, b2, b3, b4, b5, -, -⟩, hP, hJ, hV, hS1, hS2, -⟩ := h
  obtain ⟨r1, r2, r22, r23⟩ := hR
  unfold SimX
  rw [hM 0 (by decide), hM 1 (by decide), hM 2 (by decide), hM 3 (by decide), hM 4 (by decide), hM 5 (by decide), hM 169 (by decide), hM 171 (by decide), hM 173 (by decide), hM 174 (by decide), hM 202 (by decide), hM 204 (by decide), hM 206 (by decide), hM 207 (by decide), hM 209 (by decide), hM 211 (by decide)]
  rw [r2 3 (by decide), r2 14 (by decide), r2 15 (by decide), r2 17 (by decide), r2 18 (by decide), r2 0 (by decide), r2 1 (by decide), r2 2 (by decide)]
  rw [r1 1 (by decide) (by decide), r1 2 (by decide) (by decide), r1 3 (by decide) (by decide), r1 4 (by decide) (by decide), r1 5 (by decide) (by decide), r1 6 (by decide) (by decide), r1 7 (by decide) (by decide), r1 8 (by decide) (by decide), r1 9 (by decide) (by decide), r1 10 (by decide) (by decide), r1 11 (by decide) (by decide), r1 12 (by decide) (by decide), r1 13 (by decide) (by decide), r1 14 (by decide) (by decide), r1 15 (by decide) (by decide), r1 16 (by decide) (by decide)]
  exact ⟨hA, hD, ⟨b1, b2, b3, b4, b5, r22, r23⟩, hP, hJ, hV, hS1, hS2, hSM⟩
/-- a stream ends, on both sides -/
theorem SimX_cut (h : SimX s0 V n c jc pd M F I J G K w e R) (s : Int32) (hN : 300 < N) : ∃ c' M' w' R', f_Wire_endStreamOf N (zC A X M F I J G K w e) (A + 6) s = some ((), zC A X M' F I J G K w' e) ∧ f_ZoneNodesModel_cutOff N (zR B Y R) B s = some ((), zR B Y R') ∧ rfr R R' ∧ (∀ k, k ≠ 6 → M' k = M k) ∧ (mlist F I w' c').filter (ofS s) = [] ∧ (∀ x, x ≠ s → (mlist F I w' c').filter (ofS x) = (mlist F I w c).filter (ofS x)) ∧ SimX s0 V n c' jc pd M' F I J G K w' e R' := by
  have hM : SimM F I w c (M 6) (R 0 24) (rlist R c) := h.2.2.2.2.2.2.2.2
  have hb : SimB (R 4) (R 5) (R 13) (R 14) (R 16) (R 22) (R 23) := h.2.2.1
  obtain ⟨m1, m2, m3, m4, -⟩ := hM
  have hM : SimM F I w c (M 6) (R 0 24) (rlist R c) := h.2.2.2.2.2.2.2.2
  obtain ⟨c1, w1, a1, a2, a3, a4⟩ := s_endStream (N := N) (A := A) (X := X) (F := F) (I := I) (J := J) (G := G) (K := K) (e := e) s m2 m1 m4 (by omega)
  obtain ⟨c2, R2, b1, b2, b3, b4, b5⟩ := k_cutOff (N := N) (B := B) (Y := Y) s m3 (by omega) hb.2.2.2.2.2.1 hb.2.2.2.2.2.2 (by omega)
  obtain ⟨e1, q⟩ := simM_cut s hM a2 a3 a4 b3 b5
  subst e1
  have f1 : (mlist F I w1 c2).filter (ofS s) = [] := by
    rw [a4, List.filter_filter]
    have : (fun m => ofS s m && !ofS s m) = fun _ => false := by
      funext m
      cases ofS s m <;> rfl
    rw [this]
    simp
  have f2 : ∀ x, x ≠ s → (mlist F I w1 c2).filter (ofS x) = (mlist F I w c).filter (ofS x) := by
    intro x hx
    rw [a4, List.filter_filter]
    congr 1
    funext m
    unfold ofS
    cases onS m with
    | false => rfl
    | true =>
      by_cases z : m.1 2 = x
      · rw [decide_eq_true z, decide_eq_false (show ¬ m.1 2 = s from fun y => hx (z.symm.trans y))]
        rfl
      · rw [decide_eq_false z]
        rfl
  refine ⟨c2, _, w1, R2, a1, b1, b4, fun k hk => zu_ne _ hk, f1, f2, SimX_msgs h (fun k hk => zu_ne _ hk) b4 ?_⟩
  rw [zu_same, b2]
  exact q
/-- the stream of secondary 1 is lost as the primary goes down -/
theorem SimX_lose1 (h : SimX s0 V n c jc pd M F I J G K w e R) : ∃ M' R', f_Secondary_loseStream N (zC A X M F I J G K w e) (A + 202) (R 0 3) = some ((), zC A X M' F I J G K w e) ∧
    (∀ g : zh_T → Option (Unit × zh_T), (zb1 (zaz (zR B Y R) (B + 1) (ni 1)) fun v27 => if v27 = 0 then g (zR B Y R) else zb1 (zgr (zR B Y R) B 9 9) fun a31 => zb1 (zai (zR B Y R) a31 (ni 1)) fun v32 => if v32 = 2 then zb1 (zgi (zR B Y R) B 9 1) fun v36 => zb1 (zck (zR B Y R) B 9) fun _ => zb2 (f_ZoneNodesModel_rest N (zR B Y R) B (ni 1) v36) fun _ X40 => g X40 else g (zR B Y R)) = g (zR B Y R')) ∧
    R' 0 3 = R 0 3 ∧ SimX s0 V n c jc pd M' F I J G K w e R' := by
  obtain ⟨hA, hD, hB, hP, hJ, hV, hS1, hS2, hM⟩ := h
  obtain ⟨c0, c1, c2, c3, c4, c5, c6, c7, c8, c9, c10, c11, c12, c13⟩ := hS1
  rcases c5 with u | u
  · by_cases h9 : M 202 9 = 2
    · refine ⟨_, R, s_loseStream (Or.inl rfl) _, fun g => by rw [ra1 (i := 1) (by decide), zb1_some, u, if_pos rfl], rfl, ?_⟩
      rw [if_pos h9]
      exact ⟨hA, hD, hB, hP, hJ, hV, ⟨c0, c1, c2, c3, c4, Or.inl u, c6, c7, c8, c9, fun z => absurd (u.symm.trans z) (by decide), c11, c12, c13⟩, hS2, hM⟩
    · refine ⟨_, R, s_loseStream (Or.inl rfl) _, fun g => by rw [ra1 (i := 1) (by decide), zb1_some, u, if_pos rfl], rfl, ?_⟩
      rw [if_neg h9]
      exact ⟨hA, hD, hB, hP, hJ, hV, ⟨c0, c1, c2, c3, c4, Or.inl u, c6, c7, c8, c9, c10, c11, c12, c13⟩, hS2, hM⟩
  · obtain ⟨p9, p10, p11⟩ := c10 u
    by_cases h9 : R 6 1 = 2
    · refine ⟨_, zu (zu R 6 (upd (R 6) 1 0)) 7 (upd (R 7) 1 (R 0 3 + R 0 1)), s_loseStream (Or.inl rfl) _, fun g => by rw [ra1 (i := 1) (by decide), zb1_some, u, if_neg n10, rr9, zb1_some, ra6 (i := 1) (by decide), zb1_some, h9, if_pos rfl, rg1, zb1_some, rck, zb1_some, k_rest (by decide), zb2_some], rfl, ?_⟩
      rw [if_pos (p9.trans h9)]
      have hnew : SimS s0 V n 1 (secRest (M 202) (R 0 3 + M 202 2)) (M 204) (M 206) (R 0 0) (R 0 1) (R 0 2) (R 1) (R 2) (R 3) (R 4) (upd (R 6) 1 0) (upd (R 7) 1 (R 0 3 + R 0 1)) (R 8) :=
        ⟨c0, c1, c2, c3, c4, Or.inr u, c6, c7, c8, c9, fun _ => ⟨rfl, fun _ => by show R 0 3 + M 202 2 = R 0 3 + R 0 1; rw [c2], fun z => absurd z (show ¬ (0 : Int32) = 1 by decide)⟩, c11, c12, c13⟩
      exact ⟨hA, hD, hB, hP, hJ, hV, hnew, hS2, hM⟩
    · refine ⟨_, R, s_loseStream (Or.inl rfl) _, fun g => by rw [ra1 (i := 1) (by decide), zb1_some, u, if_neg n10, rr9, zb1_some, ra6 (i := 1) (by decide), zb1_some, if_neg h9], rfl, ?_⟩
      rw [if_neg (show ¬ M 202 9 = 2 from fun q => h9 (p9.symm.trans q))]
      exact ⟨hA, hD, hB, hP, hJ, hV, ⟨c0, c1, c2, c3, c4, Or.inr u, c6, c7, c8, c9, c10, c11, c12, c13⟩, hS2, hM⟩
/-- the stream of secondary 2 is lost as the primary goes down -/
theorem SimX_lose2 (h : SimX s0 V n c jc pd M F I J G K w e R) : ∃ M' R', f_Secondary_loseStream N (zC A X M F I J G K w e) (A + 207) (R 0 3) = some ((), zC A X M' F I J G K w e) ∧
    (∀ g : zh_T → Option (Unit × zh_T), (zb1 (zaz (zR B Y R) (B + 1) (ni 2)) fun v27 => if v27 = 0 then g (zR B Y R) else zb1 (zgr (zR B Y R) B 9 9) fun a31 => zb1 (zai (zR B Y R) a31 (ni 2)) fun v32 => if v32 = 2 then zb1 (zgi (zR B Y R) B 9 1) fun v36 => zb1 (zck (zR B Y R) B 9) fun _ => zb2 (f_ZoneNodesModel_rest N (zR B Y R) B (ni 2) v36) fun _ X40 => g X40 else g (zR B Y R)) = g (zR B Y R')) ∧
    R' 0 3 = R 0 3 ∧ SimX s0 V n c jc pd M' F I J G K w e R' := by
  obtain ⟨hA, hD, hB, hP, hJ, hV, hS1, hS2, hM⟩ := h
  obtain ⟨c0, c1, c2, c3, c4, c5, c6, c7, c8, c9, c10, c11, c12, c13⟩ := hS2
  rcases c5 with u | u
  · by_cases h9 : M 207 9 = 2
    · refine ⟨_, R, s_loseStream (Or.inr rfl) _, fun g => by rw [ra1 (i := 2) (by decide), zb1_some, u, if_pos rfl], rfl, ?_⟩
      rw [if_pos h9]
      exact ⟨hA, hD, hB, hP, hJ, hV, hS1, ⟨c0, c1, c2, c3, c4, Or.inl u, c6, c7, c8, c9, fun z => absurd (u.symm.trans z) (by decide), c11, c12, c13⟩, hM⟩
    · refine ⟨_, R, s_loseStream (Or.inr rfl) _, fun g => by rw [ra1 (i := 2) (by decide), zb1_some, u, if_pos rfl], rfl, ?_⟩
      rw [if_neg h9]
      exact ⟨hA, hD, hB, hP, hJ, hV, hS1, ⟨c0, c1, c2, c3, c4, Or.inl u, c6, c7, c8, c9, c10, c11, c12, c13⟩, hM⟩
  · obtain ⟨p9, p10, p11⟩ := c10 u
    by_cases h9 : R 6 2 = 2
    · refine ⟨_, zu (zu R 6 (upd (R 6) 2 0)) 7 (upd (R 7) 2 (R 0 3 + R 0 1)), s_loseStream (Or.inr rfl) _, fun g => by rw [ra1 (i := 2) (by decide), zb1_some, u, if_neg n10, rr9, zb1_some, ra6 (i := 2) (by decide), zb1_some, h9, if_pos rfl, rg1, zb1_some, rck, zb1_some, k_rest (by decide), zb2_some], rfl, ?_⟩
      rw [if_pos (p9.trans h9)]
      have hnew : SimS s0 V n 2 (secRest (M 207) (R 0 3 + M 207 2)) (M 209) (M 211) (R 0 0) (R 0 1) (R 0 2) (R 1) (R 2) (R 3) (R 4) (upd (R 6) 2 0) (upd (R 7) 2 (R 0 3 + R 0 1)) (R 8) :=
        ⟨c0, c1, c2, c3, c4, Or.inr u, c6, c7, c8, c9, fun _ => ⟨rfl, fun _ => by show R 0 3 + M 207 2 = R 0 3 + R 0 1; rw [c2], fun z => absurd z (show ¬ (0 : Int32) = 1 by decide)⟩, c11, c12, c13⟩
      exact ⟨hA, hD, hB, hP, hJ, hV, hS1, hnew, hM⟩
    · refine ⟨_, R, s_loseStream (Or.inr rfl) _, fun g => by rw [ra1 (i := 2) (by decide), zb1_some, u, if_neg n10, rr9, zb1_some, ra6 (i := 2) (by decide), zb1_some, if_neg h9], rfl, ?_⟩
      rw [if_neg (show ¬ M 207 9 = 2 from fun q => h9 (p9.symm.trans q))]
      exact ⟨hA, hD, hB, hP, hJ, hV, hS1, ⟨c0, c1, c2, c3, c4, Or.inr u, c6, c7, c8, c9, c10, c11, c12, c13⟩, hM⟩
end ZSIMG
