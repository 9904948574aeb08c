/-! deliver -/
section ZSIMP
variable {A B : Nat} {X Y : zh_T} {M F I J G K : Nat → Nat → Int32} {w e : Nat → Nat} {R : Nat → Nat → Int32} {N n c jc pd : Nat} {s0 : Int32} {V : Nat → Nat → Bool}
/-- a message that may be lost is taken out, on both sides -/
theorem Sim_rem (h : Sim s0 V n c jc pd M F I J G K w e R) {k : Nat} (hk : k < c) (hoff : onS (F (w k), I (w k)) = false) : Sim s0 V n (c - 1) jc pd (zu M 6 (upd (M 6) 1 (ni (c - 1)))) F I J G K (rot w k (c - 1)) e (Rrem R c k) := by
  refine SimX_to (SimX_rem h hk) ?_ ?_
  · rw [rem_other hk (by unfold ofS; rw [hoff]; rfl)]
    have t := sim_t1 h
    exact t
  · rw [rem_other hk (by unfold ofS; rw [hoff]; rfl)]
    have t := sim_t2 h
    exact t
theorem J155_1 (Z : zh_T) (a b d f : Int32) : J_ZoneNodesModel_deliver_155 N Z B 1 a b d f = some (1, Z) := by
  unfold J_ZoneNodesModel_deliver_155
  rw [if_neg (by decide), if_neg (by decide)]
  unfold J_ZoneNodesModel_deliver_184
  rw [if_neg (by decide), if_neg (by decide)]
theorem J155_2 (a b d f : Int32) : J_ZoneNodesModel_deliver_155 N (zR B Y R) B 2 a b d f = zb2 (f_ZoneNodesModel_send N (zR B Y R) B 3 a (R 3 0)) fun _ Z => some (1, Z) := by
  unfold J_ZoneNodesModel_deliver_155
  rw [if_pos rfl, rr6, zb1_some, show zai (zR B Y R) (B + 3) 0 = some (R 3 0) from ra3 (i := 0) (by decide), zb1_some, rck, zb1_some]
  cases f_ZoneNodesModel_send N (zR B Y R) B 3 a (R 3 0) with
  | none => rfl
  | some z =>
    obtain ⟨u, Z⟩ := z
    rw [zb2_some, zb2_some, if_neg (by decide)]
    unfold J_ZoneNodesModel_deliver_184
    rw [if_neg (by decide), if_neg (by decide)]
theorem J155_3 (a b d f : Int32) : J_ZoneNodesModel_deliver_155 N (zR B Y R) B 3 a b d f = zb2 (f_ZoneNodesModel_takeTell N (zR B Y R) B a b) fun _ Z => some (1, Z) := by
  unfold J_ZoneNodesModel_deliver_155
  rw [if_neg (by decide), if_pos rfl, rck, zb1_some]
  cases f_ZoneNodesModel_takeTell N (zR B Y R) B a b with
  | none => rfl
  | some z =>
    show J_ZoneNodesModel_deliver_184 N z.2 B 3 a b d f = _
    unfold J_ZoneNodesModel_deliver_184
    rw [if_neg (by decide), if_neg (by decide)]
    rfl
theorem J155_4 (a b d f : Int32) : J_ZoneNodesModel_deliver_155 N (zR B Y R) B 4 a b d f = zb2 (f_ZoneNodesModel_takeFetch N (zR B Y R) B a d b) fun _ Z => some (1, Z) := by
  unfold J_ZoneNodesModel_deliver_155
  rw [if_neg (by decide), if_neg (by decide)]
  unfold J_ZoneNodesModel_deliver_184
  rw [if_pos rfl, rck, zb1_some]
  cases f_ZoneNodesModel_takeFetch N (zR B Y R) B a d b with
  | none => rfl
  | some z =>
    obtain ⟨u, Z⟩ := z
    rw [zb2_some, zb2_some, if_neg (by decide)]
theorem J155_5 (a b d f : Int32) : J_ZoneNodesModel_deliver_155 N (zR B Y R) B 5 a b d f = zb2 (f_ZoneNodesModel_takePart N (zR B Y R) B a b d f) fun _ Z => some (1, Z) := by
  unfold J_ZoneNodesModel_deliver_155
  rw [if_neg (by decide), if_neg (by decide)]
  unfold J_ZoneNodesModel_deliver_184
  rw [if_neg (by decide), if_pos rfl, rck, zb1_some]
/-- what the class does with the message that is taken out -/
def arrC (N : Nat) (Z : zh_T) (A x : Nat) (kd sec : Int32) : Option (Int32 × zh_T) :=
  if kd = 2 then zb2 (f_ZoneNodes_arriveAtPrimary N Z A (A + (8 + 2 * x))) fun _ Z' => some (1, Z')
  else if kd = 4 then zb2 (f_ZoneNodes_arriveAtPrimary N Z A (A + (8 + 2 * x))) fun _ Z' => some (1, Z')
  else zb1 (zar Z 4 (A + 168) (sec - 1)) fun a => zb2 (f_ZoneNodes_arriveAtSecondary N Z A (A + (8 + 2 * x)) a) fun _ Z' => some (1, Z')
/-- what the reference does with it -/
def arrR (N : Nat) (R : Nat → Nat → Int32) (B : Nat) (Y : zh_T) (kd sec sr fl la : Int32) : Option (Int32 × zh_T) :=
  if kd = 2 then (if R 1 0 = 0 then some (1, zR B Y R) else J_ZoneNodesModel_deliver_155 N (zR B Y R) B kd sec sr fl la)
  else if kd = 4 then (if R 1 0 = 0 then some (1, zR B Y R) else J_ZoneNodesModel_deliver_155 N (zR B Y R) B kd sec sr fl la)
  else zb1 (zaz (zR B Y R) (B + 1) sec) fun v100 => if v100 = 0 then some (1, zR B Y R) else
    if kd = 1 then (zb1 (zai (zR B Y R) (B + 6) sec) fun v86 => if v86 = 0 then zb1 (zck (zR B Y R) B 9) fun _ => zb1 (f_ZoneNodesModel_isNews N (zR B Y R) B sec sr) fun v91 => if v91 = 0 then J_ZoneNodesModel_deliver_155 N (zR B Y R) B kd sec sr fl la else zb1 (zck (zR B Y R) B 9) fun _ => zb2 (f_ZoneNodesModel_ask N (zR B Y R) B sec) fun _ X96 => J_ZoneNodesModel_deliver_155 N X96 B kd sec sr fl la else J_ZoneNodesModel_deliver_155 N (zR B Y R) B kd sec sr fl la)
    else J_ZoneNodesModel_deliver_155 N (zR B Y R) B kd sec sr fl la
theorem s_deliver_go {k : Nat} (m1 : c ≤ 80) (m2 : M 6 1 = ni c) (m4 : wperm w 80) (hk : k < c) (hN : 300 < N) (hb : ¬ (F (w k) 1 = 5 ∧ ∃ q, q < k ∧ F (w q) 1 = 5 ∧ F (w q) 2 = F (w k) 2)) :
    f_ZoneNodes_deliver N (zC A X M F I J G K w e) A (ni k) = arrC N (zC A X (zu M 6 (upd (M 6) 1 (ni (c - 1)))) F I J G K (rot w k (c - 1)) e) A (w k) (F (w k) 1) (F (w k) 2) := by
  have hx := m4.1 k (by omega)
  have hat : f_Wire_at N (zC A X M F I J G K w e) (A + 6) (ni k) = some (some (A + (8 + 2 * w k))) := by
    rw [s_at m2 m1, ni_to (n := k) (by omega), if_pos ⟨Int32.not_lt.mp (ni_nonneg (a := k) (by omega)), hk⟩]
  unfold f_ZoneNodes_deliver arrC
  simp only [cr0_3, zb1_some, ck6, hat, zbo_some]
  rw [s_behind m4 (by omega) (by omega), zb1_some, pif_neg hb, if_pos rfl, s_takeOut m2 m1 m4 hk (by omega), zb2_some, m_gi hx (j := 1) rfl, zb1_some, ck0]
  by_cases h2 : F (w k) 1 = 2
  · rw [if_pos h2, if_pos h2, zb1_some]
  · rw [if_neg h2, if_neg h2, zb1_some]
    by_cases h4 : F (w k) 1 = 4
    · rw [if_pos h4, if_pos h4, zb1_some]
    · rw [if_neg h4, if_neg h4, cr0_5, zb1_some, m_gi hx (j := 2) rfl, zb1_some]
      rfl
theorem k_deliver_go {k : Nat} (m1 : c ≤ 80) (m3 : R 0 24 = ni c) (hk : k < c) (b1 : b01 (R 22) 96) (b2 : b01 (R 23) 96) (hN : 300 < N) (hb : ¬ (R 17 k = 5 ∧ ∃ q, 0 ≤ q ∧ q < k ∧ R 17 q = 5 ∧ R 18 q = R 18 k)) :
    f_ZoneNodesModel_deliver N (zR B Y R) B (ni k) = arrR N (Rrem R c k) B Y (R 17 k) (R 18 k) (R 19 k) (R 22 k) (R 23 k) := by
  have him : f_ZoneNodesModel_isMessage N (zR B Y R) B (ni k) = some 1 := by
    rw [k_isMessage m3 (by omega), ni_to (n := k) (by omega), if_pos ⟨Int32.not_lt.mp (ni_nonneg (a := k) (by omega)), hk⟩]
  have hlp : L_ZoneNodesModel_deliver_51 N (zR B Y R) B (ni k) (R 17 k) (R 18 k) (R 19 k) (R 22 k) (R 23 k) N 0 = some (.inr ()) := by
    have := k_behind_L (N := N) (B := B) (Y := Y) (R := R) (i := k) (by omega) (R 17 k) (R 18 k) (R 19 k) (R 22 k) (R 23 k) k 0 N (by omega) (by omega)
    rw [pif_neg hb] at this
    exact this
  have h0 : zaz (zR B Y (Rrem R c k)) (B + 1) 0 = some (Rrem R c k 1 0) := ra1 (i := 0) (by decide)
  unfold f_ZoneNodesModel_deliver arrR
  rw [rck, zb1_some, him, zb1_some, if_neg n10, rr25, zb1_some, ra17 (i := k) (by omega), zb1_some, rr26, zb1_some, ra18 (i := k) (by omega), zb1_some, rr27, zb1_some, ra19 (i := k) (by omega), zb1_some, rr30, zb1_some, ra22 (i := k) (by omega), zb1_some, rr31, zb1_some, ra23 (i := k) (by omega), zb1_some, hlp, zbs_inr, zb1_some, k_remove m3 (by omega) hk b1 b2 (by omega), zb2_some]
  by_cases h2 : R 17 k = 2
  · rw [if_pos h2, if_pos h2, rr4, zb1_some, h0, zb1_some, h2, if_neg (show ¬ (2 : Int32) = 1 by decide)]
  · rw [if_neg h2, if_neg h2]
    by_cases h4 : R 17 k = 4
    · rw [if_pos h4, if_pos h4, rr4, zb1_some, h0, zb1_some, h4, if_neg (show ¬ (4 : Int32) = 1 by decide)]
    · rw [if_neg h4, if_neg h4, rr4, zb1_some, rr9]
      rfl
/-- an ASK arrives -/
theorem Sim_askAt (h : Sim s0 V n c jc pd M F I J G K w e R) {x : Nat} (hx : x < 80) (h1 : F x 1 = 2) (hs : F x 2 = 1 ∨ F x 2 = 2) (sr fl la : Int32) (hN : 300 < N) : ∃ r c' M' F' R', arrC N (zC A X M F I J G K w e) A x 2 (F x 2) = some (r, zC A X M' F' I J G K w e) ∧ arrR N R B Y 2 (F x 2) sr fl la = some (r, zR B Y R') ∧ Sim s0 V n c' jc pd M' F' I J G K w e R' := by
  have hP := sim_p h
  unfold arrC arrR f_ZoneNodes_arriveAtPrimary
  rw [if_pos rfl, if_pos rfl, cr0_4, zb1_some, cg169_8, zb1_some, hP.1]
  by_cases hu : R 1 0 = 0
  · rw [if_pos hu, if_pos hu, zb2_some]
    exact ⟨1, c, M, F, R, rfl, rfl, h⟩
  · obtain ⟨c1, F1, M1, R1, a1, a2, a3, a4, -, a6⟩ := Sim_send (N := N) (A := A) (X := X) (B := B) (Y := Y) (kd := 3) (s := F x 2) (sr := R 3 0) h (Or.inr (Or.inr rfl)) hs hN
    rw [if_neg hu, if_neg hu, m_gi hx (j := 1) rfl, zb1_some, h1, if_pos rfl, cr0_3, zb1_some, m_gi hx (j := 2) rfl, zb1_some, zb1_some, cg169_6, zb1_some, ck6, zb1_some, hP.2.2.2.2.1, a1, zb2_some, zb2_some, J155_2, a2, zb2_some]
    exact ⟨1, c1, M1, F1, R1, rfl, rfl, a6⟩
/-- a NOTIFY arrives at secondary 1 -/
theorem Sim_notifyAt1 (h : Sim s0 V n c jc pd M F I J G K w e R) {x : Nat} (hx : x < 80) (h1 : F x 1 = 1) (fl la : Int32) (hN : 300 < N) : ∃ r c' M' F' R', arrC N (zC A X M F I J G K w e) A x 1 1 = some (r, zC A X M' F' I J G K w e) ∧ arrR N R B Y 1 (ni 1) (F x 4) fl la = some (r, zR B Y R') ∧ Sim s0 V n c' jc pd M' F' I J G K w e R' := by
  have hA : M 0 6 = R 0 3 := h.1.1
  have c4 : M 202 6 = R 1 1 := (sim_1 h).2.2.2.2.1
  unfold arrC arrR f_ZoneNodes_arriveAtSecondary
  rw [if_neg (by decide), if_neg (by decide), if_neg (show ¬ (1 : Int32) = 2 by decide), if_neg (show ¬ (1 : Int32) = 4 by decide), show (1 : Int32) - 1 = ni 0 from rfl, x_ar0, zb1_some, cg202_6, zb1_some, c4, ra1 (i := 1) (by decide), zb1_some]
  by_cases hu : R 1 1 = 0
  · rw [if_pos hu, if_pos hu, zb2_some]
    exact ⟨1, c, M, F, R, rfl, rfl, h⟩
  · have hu1 : R 1 1 = 1 := (sim_1 h).2.2.2.2.2.1.resolve_left hu
    obtain ⟨c1, F1, M1, R1, a1, a2, a3⟩ := Sim_hear1 (N := N) (A := A) (X := X) (B := B) (Y := Y) h hu1 (F x 4) hN
    rw [if_neg hu, if_neg hu, m_gi hx (j := 1) rfl, zb1_some, h1, if_pos rfl, m_gi hx (j := 4) rfl, zb1_some, cg0_6, zb1_some, cr0_3, zb1_some, ck202, zb1_some, hA, a1, zb2_some, zb2_some, if_pos rfl, a2 fun Z => J_ZoneNodesModel_deliver_155 N Z B 1 (ni 1) (F x 4) fl la, J155_1]
    exact ⟨1, c1, M1, F1, R1, rfl, rfl, a3⟩
/-- a TELL arrives at secondary 1 -/
theorem Sim_tellAt1 (h : Sim s0 V n c jc pd M F I J G K w e R) {x : Nat} (hx : x < 80) (h1 : F x 1 = 3) (fl la : Int32) (hN : 300 < N) : ∃ r c' M' F' R', arrC N (zC A X M F I J G K w e) A x 3 1 = some (r, zC A X M' F' I J G K w e) ∧ arrR N R B Y 3 (ni 1) (F x 4) fl la = some (r, zR B Y R') ∧ Sim s0 V n c' jc pd M' F' I J G K w e R' := by
  have hA : M 0 6 = R 0 3 := h.1.1
  have hP := (sim_p h).1
  have c4 : M 202 6 = R 1 1 := (sim_1 h).2.2.2.2.1
  unfold arrC arrR f_ZoneNodes_arriveAtSecondary
  rw [if_neg (by decide), if_neg (by decide), if_neg (show ¬ (3 : Int32) = 2 by decide), if_neg (show ¬ (3 : Int32) = 4 by decide), show (1 : Int32) - 1 = ni 0 from rfl, x_ar0, zb1_some, cg202_6, zb1_some, c4, ra1 (i := 1) (by decide), zb1_some]
  by_cases hu : R 1 1 = 0
  · rw [if_pos hu, if_pos hu, zb2_some]
    exact ⟨1, c, M, F, R, rfl, rfl, h⟩
  · have hu1 : R 1 1 = 1 := (sim_1 h).2.2.2.2.2.1.resolve_left hu
    obtain ⟨c1, F1, M1, R1, a1, a2, a3⟩ := Sim_tell1 (N := N) (A := A) (X := X) (B := B) (Y := Y) h hu1 (F x 4) hN
    rw [if_neg hu, if_neg hu, m_gi hx (j := 1) rfl, zb1_some, h1, if_neg (show ¬ (3 : Int32) = 1 by decide), zb1_some, if_pos rfl, m_gi hx (j := 4) rfl, zb1_some, cr0_4, zb1_some, cg169_8, zb1_some, cg0_6, zb1_some, cr0_3, zb1_some, ck202, zb1_some, hA, hP, a1, zb2_some, zb2_some, if_neg (show ¬ (3 : Int32) = 1 by decide), J155_3, a2, zb2_some]
    exact ⟨1, c1, M1, F1, R1, rfl, rfl, a3⟩
/-- a FETCH of secondary 1 arrives, taken out of its place -/
theorem Sim_fetchAt1 (h : Sim s0 V n c jc pd M F I J G K w e R) {k : Nat} (hk : k < c) (h4 : F (w k) 1 = 4) (h2 : F (w k) 2 = 1) (la : Int32) (hn : n ≤ 60000) (hN : 300 < N) : ∃ r c' M' F' I' R', arrC N (zC A X (zu M 6 (upd (M 6) 1 (ni (c - 1)))) F I J G K (rot w k (c - 1)) e) A (w k) 4 1 = some (r, zC A X M' F' I' J G K (rot w k (c - 1)) e) ∧ arrR N (Rrem R c k) B Y 4 (ni 1) (F (w k) 4) (F (w k) 3) la = some (r, zR B Y R') ∧ Sim s0 V n c' jc pd M' F' I' J G K (rot w k (c - 1)) e R' := by
  have hx : w k < 80 := (sim_m h).2.2.2.1.1 k (by have := (sim_m h).1; omega)
  obtain ⟨u0, u1, u9, u6, f3, f4, hS⟩ := fetch_split (sim_t1 h) hk h4 h2
  have To : SimT s0 V n 2 (M 207) (M 209) (M 211) (R 1 0) (R 6 2) (R 5) ((mlist F I (rot w k (c - 1)) (c - 1)).filter (ofS 2)) := by
    rw [rem_other hk (by unfold ofS; rw [show (F (w k), I (w k)).1 2 = 1 from h2, decide_eq_false (show ¬ (1 : Int32) = 2 by decide), Bool.and_false])]
    exact sim_t2 h
  have hu : M 169 8 = R 1 0 := (sim_p h).1
  obtain ⟨M1, c', M', F', I', R', z1, z2, z3, z4⟩ := Sim_fetch1 (N := N) (A := A) (X := X) (B := B) (Y := Y) (SimX_rem h hk) hS To u0 u1 u9 u6 hn hN
  have z1' : f_Primary_workOutItems N (zC A X (zu M 6 (upd (M 6) 1 (ni (c - 1)))) F I J G K (rot w k (c - 1)) e) (A + 169) (M 202 7) (M 202 8) = some ((), zC A X M1 F I J G K (rot w k (c - 1)) e) := z1
  have z3' : f_ZoneNodesModel_takeFetch N (zR B Y (Rrem R c k)) B (ni 1) (M 202 7) (M 202 8) = some ((), zR B Y R') := z3
  have u8 : zu M 6 (upd (M 6) 1 (ni (c - 1))) 169 8 = 1 := hu.trans u0
  have ur : Rrem R c k 1 0 = 1 := u0
  refine ⟨1, c', M', F', I', R', ?_, ?_, z4⟩
  · unfold arrC f_ZoneNodes_arriveAtPrimary
    rw [if_neg (by decide), if_pos rfl, cr0_4, zb1_some, cg169_8, zb1_some, u8, if_neg n10, m_gi hx (j := 1) rfl, zb1_some, h4, if_neg (show ¬ (4 : Int32) = 2 by decide), zb1_some, m_gi hx (j := 3) rfl, zb1_some, m_gi hx (j := 4) rfl, zb1_some, ck169, zb1_some, f3, f4, z1', zb2_some, cr0_3, zb1_some, m_gi hx (j := 2) rfl, zb1_some, cr0_4, zb1_some, ck6, zb1_some, h2, show (1 : Int32) = ni 1 from rfl, z2, zb2_some, zb2_some]
  · unfold arrR
    rw [if_neg (by decide), if_pos rfl, ur, if_neg n10, J155_4, f3, f4, z3', zb2_some]
/-- a PART that is next arrives at secondary 1, taken out of its place -/
theorem Sim_partAt1 (h : Sim s0 V n c jc pd M F I J G K w e R) {k : Nat} (hk : k < c) (h5 : F (w k) 1 = 5) (h2 : F (w k) 2 = 1) (h9 : F (w k) 9 = 0 ∨ F (w k) 9 = 1) (hb : ¬ ∃ q, q < k ∧ F (w q) 1 = 5 ∧ F (w q) 2 = F (w k) 2) (hN : 300 < N) : ∃ r c' M' w' R', arrC N (zC A X (zu M 6 (upd (M 6) 1 (ni (c - 1)))) F I J G K (rot w k (c - 1)) e) A (w k) 5 1 = some (r, zC A X M' F I J G K w' e) ∧ arrR N (Rrem R c k) B Y 5 (ni 1) (F (w k) 4) (F (w k) 9) (F (w k) 8) = some (r, zR B Y R') ∧ Sim s0 V n c' jc pd M' F I J G K w' e R' := by
  have hx : w k < 80 := (sim_m h).2.2.2.1.1 k (by have := (sim_m h).1; omega)
  obtain ⟨u0, u1, u9, u6, k0, b, wh, q1, q2, q3, q4, q5, q6⟩ := part_split (sim_t1 h) hk h5 h2 hb
  have To : SimT s0 V n 2 (M 207) (M 209) (M 211) (R 1 0) (R 6 2) (R 5) ((mlist F I (rot w k (c - 1)) (c - 1)).filter (ofS 2)) := by
    rw [rem_other hk (by unfold ofS; rw [show (F (w k), I (w k)).1 2 = 1 from h2, decide_eq_false (show ¬ (1 : Int32) = 2 by decide), Bool.and_false])]
    exact sim_t2 h
  obtain ⟨c', M', w', R', z1, z2, z3⟩ := Sim_part1 (N := N) (A := A) (X := X) (B := B) (Y := Y) (SimX_rem h hk) hx h5 h9 u0 u1 u9 u6 To q1 q2 q3 q4 q5 q6 hN
  have c4 : M 202 6 = R 1 1 := (sim_1 h).2.2.2.2.1
  have ur : Rrem R c k 1 1 = 1 := c4.symm.trans u1
  refine ⟨1, c', M', w', R', ?_, ?_, z3⟩
  · unfold arrC
    rw [if_neg (by decide), if_neg (by decide), show (1 : Int32) - 1 = ni 0 from rfl, x_ar0, zb1_some, z1, zb2_some]
  · unfold arrR
    rw [if_neg (by decide), if_neg (by decide), ra1 (i := 1) (by decide), zb1_some, ur, if_neg n10, if_neg (show ¬ (5 : Int32) = 1 by decide), J155_5, z2, zb2_some]
/-- a NOTIFY arrives at secondary 2 -/
theorem Sim_notifyAt2 (h : Sim s0 V n c jc pd M F I J G K w e R) {x : Nat} (hx : x < 80) (h1 : F x 1 = 1) (fl la : Int32) (hN : 300 < N) : ∃ r c' M' F' R', arrC N (zC A X M F I J G K w e) A x 1 2 = some (r, zC A X M' F' I J G K w e) ∧ arrR N R B Y 1 (ni 2) (F x 4) fl la = some (r, zR B Y R') ∧ Sim s0 V n c' jc pd M' F' I J G K w e R' := by
  have hA : M 0 6 = R 0 3 := h.1.1
  have c4 : M 207 6 = R 1 2 := (sim_2 h).2.2.2.2.1
  unfold arrC arrR f_ZoneNodes_arriveAtSecondary
  rw [if_neg (by decide), if_neg (by decide), if_neg (show ¬ (1 : Int32) = 2 by decide), if_neg (show ¬ (1 : Int32) = 4 by decide), show (2 : Int32) - 1 = ni 1 from rfl, x_ar1, zb1_some, cg207_6, zb1_some, c4, ra1 (i := 2) (by decide), zb1_some]
  by_cases hu : R 1 2 = 0
  · rw [if_pos hu, if_pos hu, zb2_some]
    exact ⟨1, c, M, F, R, rfl, rfl, h⟩
  · have hu1 : R 1 2 = 1 := (sim_2 h).2.2.2.2.2.1.resolve_left hu
    obtain ⟨c1, F1, M1, R1, a1, a2, a3⟩ := Sim_hear2 (N := N) (A := A) (X := X) (B := B) (Y := Y) h hu1 (F x 4) hN
    rw [if_neg hu, if_neg hu, m_gi hx (j := 1) rfl, zb1_some, h1, if_pos rfl, m_gi hx (j := 4) rfl, zb1_some, cg0_6, zb1_some, cr0_3, zb1_some, ck207, zb1_some, hA, a1, zb2_some, zb2_some, if_pos rfl, a2 fun Z => J_ZoneNodesModel_deliver_155 N Z B 1 (ni 2) (F x 4) fl la, J155_1]
    exact ⟨1, c1, M1, F1, R1, rfl, rfl, a3⟩
/-- a TELL arrives at secondary 2 -/
theorem Sim_tellAt2 (h : Sim s0 V n c jc pd M F I J G K w e R) {x : Nat} (hx : x < 80) (h1 : F x 1 = 3) (fl la : Int32) (hN : 300 < N) : ∃ r c' M' F' R', arrC N (zC A X M F I J G K w e) A x 3 2 = some (r, zC A X M' F' I J G K w e) ∧ arrR N R B Y 3 (ni 2) (F x 4) fl la = some (r, zR B Y R') ∧ Sim s0 V n c' jc pd M' F' I J G K w e R' := by
  have hA : M 0 6 = R 0 3 := h.1.1
  have hP := (sim_p h).1
  have c4 : M 207 6 = R 1 2 := (sim_2 h).2.2.2.2.1
  unfold arrC arrR f_ZoneNodes_arriveAtSecondary
  rw [if_neg (by decide), if_neg (by decide), if_neg (show ¬ (3 : Int32) = 2 by decide), if_neg (show ¬ (3 : Int32) = 4 by decide), show (2 : Int32) - 1 = ni 1 from rfl, x_ar1, zb1_some, cg207_6, zb1_some, c4, ra1 (i := 2) (by decide), zb1_some]
  by_cases hu : R 1 2 = 0
  · rw [if_pos hu, if_pos hu, zb2_some]
    exact ⟨1, c, M, F, R, rfl, rfl, h⟩
  · have hu1 : R 1 2 = 1 := (sim_2 h).2.2.2.2.2.1.resolve_left hu
    obtain ⟨c1, F1, M1, R1, a1, a2, a3⟩ := Sim_tell2 (N := N) (A := A) (X := X) (B := B) (Y := Y) h hu1 (F x 4) hN
    rw [if_neg hu, if_neg hu, m_gi hx (j := 1) rfl, zb1_some, h1, if_neg (show ¬ (3 : Int32) = 1 by decide), zb1_some, if_pos rfl, m_gi hx (j := 4) rfl, zb1_some, cr0_4, zb1_some, cg169_8, zb1_some, cg0_6, zb1_some, cr0_3, zb1_some, ck207, zb1_some, hA, hP, a1, zb2_some, zb2_some, if_neg (show ¬ (3 : Int32) = 1 by decide), J155_3, a2, zb2_some]
    exact ⟨1, c1, M1, F1, R1, rfl, rfl, a3⟩
/-- a FETCH of secondary 2 arrives, taken out of its place -/
theorem Sim_fetchAt2 (h : Sim s0 V n c jc pd M F I J G K w e R) {k : Nat} (hk : k < c) (h4 : F (w k) 1 = 4) (h2 : F (w k) 2 = 2) (la : Int32) (hn : n ≤ 60000) (hN : 300 < N) : ∃ r c' M' F' I' R', arrC N (zC A X (zu M 6 (upd (M 6) 1 (ni (c - 1)))) F I J G K (rot w k (c - 1)) e) A (w k) 4 2 = some (r, zC A X M' F' I' J G K (rot w k (c - 1)) e) ∧ arrR N (Rrem R c k) B Y 4 (ni 2) (F (w k) 4) (F (w k) 3) la = some (r, zR B Y R') ∧ Sim s0 V n c' jc pd M' F' I' J G K (rot w k (c - 1)) e R' := by
  have hx : w k < 80 := (sim_m h).2.2.2.1.1 k (by have := (sim_m h).1; omega)
  obtain ⟨u0, u1, u9, u6, f3, f4, hS⟩ := fetch_split (sim_t2 h) hk h4 h2
  have To : SimT s0 V n 1 (M 202) (M 204) (M 206) (R 1 0) (R 6 1) (R 5) ((mlist F I (rot w k (c - 1)) (c - 1)).filter (ofS 1)) := by
    rw [rem_other hk (by unfold ofS; rw [show (F (w k), I (w k)).1 2 = 2 from h2, decide_eq_false (show ¬ (2 : Int32) = 1 by decide), Bool.and_false])]
    exact sim_t1 h
  have hu : M 169 8 = R 1 0 := (sim_p h).1
  obtain ⟨M1, c', M', F', I', R', z1, z2, z3, z4⟩ := Sim_fetch2 (N := N) (A := A) (X := X) (B := B) (Y := Y) (SimX_rem h hk) hS To u0 u1 u9 u6 hn hN
  have z1' : f_Primary_workOutItems N (zC A X (zu M 6 (upd (M 6) 1 (ni (c - 1)))) F I J G K (rot w k (c - 1)) e) (A + 169) (M 207 7) (M 207 8) = some ((), zC A X M1 F I J G K (rot w k (c - 1)) e) := z1
  have z3' : f_ZoneNodesModel_takeFetch N (zR B Y (Rrem R c k)) B (ni 2) (M 207 7) (M 207 8) = some ((), zR B Y R') := z3
  have u8 : zu M 6 (upd (M 6) 1 (ni (c - 1))) 169 8 = 1 := hu.trans u0
  have ur : Rrem R c k 1 0 = 1 := u0
  refine ⟨1, c', M', F', I', R', ?_, ?_, z4⟩
  · unfold arrC f_ZoneNodes_arriveAtPrimary
    rw [if_neg (by decide), if_pos rfl, cr0_4, zb1_some, cg169_8, zb1_some, u8, if_neg n10, m_gi hx (j := 1) rfl, zb1_some, h4, if_neg (show ¬ (4 : Int32) = 2 by decide), zb1_some, m_gi hx (j := 3) rfl, zb1_some, m_gi hx (j := 4) rfl, zb1_some, ck169, zb1_some, f3, f4, z1', zb2_some, cr0_3, zb1_some, m_gi hx (j := 2) rfl, zb1_some, cr0_4, zb1_some, ck6, zb1_some, h2, show (2 : Int32) = ni 2 from rfl, z2, zb2_some, zb2_some]
  · unfold arrR
    rw [if_neg (by decide), if_pos rfl, ur, if_neg n10, J155_4, f3, f4, z3', zb2_some]
/-- a PART that is next arrives at secondary 2, taken out of its place -/
theorem Sim_partAt2 (h : Sim s0 V n c jc pd M F I J G K w e R) {k : Nat} (hk : k < c) (h5 : F (w k) 1 = 5) (h2 : F (w k) 2 = 2) (h9 : F (w k) 9 = 0 ∨ F (w k) 9 = 1) (hb : ¬ ∃ q, q < k ∧ F (w q) 1 = 5 ∧ F (w q) 2 = F (w k) 2) (hN : 300 < N) : ∃ r c' M' w' R', arrC N (zC A X (zu M 6 (upd (M 6) 1 (ni (c - 1)))) F I J G K (rot w k (c - 1)) e) A (w k) 5 2 = some (r, zC A X M' F I J G K w' e) ∧ arrR N (Rrem R c k) B Y 5 (ni 2) (F (w k) 4) (F (w k) 9) (F (w k) 8) = some (r, zR B Y R') ∧ Sim s0 V n c' jc pd M' F I J G K w' e R' := by
  have hx : w k < 80 := (sim_m h).2.2.2.1.1 k (by have := (sim_m h).1; omega)
  obtain ⟨u0, u1, u9, u6, k0, b, wh, q1, q2, q3, q4, q5, q6⟩ := part_split (sim_t2 h) hk h5 h2 hb
  have To : SimT s0 V n 1 (M 202) (M 204) (M 206) (R 1 0) (R 6 1) (R 5) ((mlist F I (rot w k (c - 1)) (c - 1)).filter (ofS 1)) := by
    rw [rem_other hk (by unfold ofS; rw [show (F (w k), I (w k)).1 2 = 2 from h2, decide_eq_false (show ¬ (2 : Int32) = 1 by decide), Bool.and_false])]
    exact sim_t1 h
  obtain ⟨c', M', w', R', z1, z2, z3⟩ := Sim_part2 (N := N) (A := A) (X := X) (B := B) (Y := Y) (SimX_rem h hk) hx h5 h9 u0 u1 u9 u6 To q1 q2 q3 q4 q5 q6 hN
  have c4 : M 207 6 = R 1 2 := (sim_2 h).2.2.2.2.1
  have ur : Rrem R c k 1 2 = 1 := c4.symm.trans u1
  refine ⟨1, c', M', w', R', ?_, ?_, z3⟩
  · unfold arrC
    rw [if_neg (by decide), if_neg (by decide), show (2 : Int32) - 1 = ni 1 from rfl, x_ar1, zb1_some, z1, zb2_some]
  · unfold arrR
    rw [if_neg (by decide), if_neg (by decide), ra1 (i := 2) (by decide), zb1_some, ur, if_neg n10, if_neg (show ¬ (5 : Int32) = 1 by decide), J155_5, z2, zb2_some]
theorem o_deliver (h : Sim s0 V n c jc pd M F I J G K w e R) (i : Int32) (hn : n ≤ 60000) (hN : 300 < N) : ∃ r c' M' F' I' w' R', f_ZoneNodes_deliver N (zC A X M F I J G K w e) A i = some (r, zC A X M' F' I' J G K w' e) ∧ f_ZoneNodesModel_deliver N (zR B Y R) B i = some (r, zR B Y R') ∧ Sim s0 V n c' jc pd M' F' I' J G K w' e R' := by
  have hM := sim_m h
  have hB := sim_b h
  obtain ⟨m1, m2, m3, m4, -⟩ := sim_m h
  by_cases hi : 0 ≤ i ∧ i.toNatClampNeg < c
  · obtain ⟨h1, h2⟩ := hi
    have hne := ni_of h1
    generalize i.toNatClampNeg = k at hne h2
    subst hne
    have hx := m4.1 k (by omega)
    have hiff : (F (w k) 1 = 5 ∧ ∃ q, q < k ∧ F (w q) 1 = 5 ∧ F (w q) 2 = F (w k) 2) ↔ (R 17 k = 5 ∧ ∃ q, 0 ≤ q ∧ q < k ∧ R 17 q = 5 ∧ R 18 q = R 18 k) := by
      have ek : F (w k) 1 = R 17 k ∧ F (w k) 2 = R 18 k := ⟨(sim_at h h2).1, (sim_at h h2).2.1⟩
      rw [ek.1, ek.2]
      constructor
      · rintro ⟨z, q, y1, y2, y3⟩
        have eq : F (w q) 1 = R 17 q ∧ F (w q) 2 = R 18 q := ⟨(sim_at h (show q < c by omega)).1, (sim_at h (show q < c by omega)).2.1⟩
        rw [eq.1] at y2
        rw [eq.2] at y3
        exact ⟨z, q, Nat.zero_le q, y1, y2, y3⟩
      · rintro ⟨z, q, -, y1, y2, y3⟩
        have eq : F (w q) 1 = R 17 q ∧ F (w q) 2 = R 18 q := ⟨(sim_at h (show q < c by omega)).1, (sim_at h (show q < c by omega)).2.1⟩
        rw [← eq.1] at y2
        rw [← eq.2] at y3
        exact ⟨z, q, y1, y2, y3⟩
    by_cases hb : F (w k) 1 = 5 ∧ ∃ q, q < k ∧ F (w q) 1 = 5 ∧ F (w q) 2 = F (w k) 2
    · refine ⟨0, c, M, F, I, w, R, ?_, ?_, h⟩
      · have hat : f_Wire_at N (zC A X M F I J G K w e) (A + 6) (ni k) = some (some (A + (8 + 2 * w k))) := by
          rw [s_at m2 m1, ni_to (n := k) (by omega), if_pos ⟨Int32.not_lt.mp (ni_nonneg (a := k) (by omega)), h2⟩]
        unfold f_ZoneNodes_deliver
        simp only [cr0_3, zb1_some, ck6, hat, zbo_some]
        rw [s_behind m4 (by omega) (by omega), zb1_some, pif_pos hb, if_neg n10]
      · have him : f_ZoneNodesModel_isMessage N (zR B Y R) B (ni k) = some 1 := by
          rw [k_isMessage m3 (by omega), ni_to (n := k) (by omega), if_pos ⟨Int32.not_lt.mp (ni_nonneg (a := k) (by omega)), h2⟩]
        have hlp : L_ZoneNodesModel_deliver_51 N (zR B Y R) B (ni k) (R 17 k) (R 18 k) (R 19 k) (R 22 k) (R 23 k) N 0 = some (.inl 0) := by
          have := k_behind_L (N := N) (B := B) (Y := Y) (R := R) (i := k) (by omega) (R 17 k) (R 18 k) (R 19 k) (R 22 k) (R 23 k) k 0 N (by omega) (by omega)
          rw [pif_pos (hiff.mp hb)] at this
          exact this
        unfold f_ZoneNodesModel_deliver
        rw [rck, zb1_some, him, zb1_some, if_neg n10, rr25, zb1_some, ra17 (i := k) (by omega), zb1_some, rr26, zb1_some, ra18 (i := k) (by omega), zb1_some, rr27, zb1_some, ra19 (i := k) (by omega), zb1_some, rr30, zb1_some, ra22 (i := k) (by omega), zb1_some, rr31, zb1_some, ra23 (i := k) (by omega), zb1_some, hlp, zbs_inl]
    · rw [s_deliver_go m1 m2 m4 h2 hN hb, k_deliver_go m1 m3 h2 hB.2.2.2.2.2.1 hB.2.2.2.2.2.2 hN (fun q => hb (hiff.mpr q))]
      obtain ⟨e1, e2, e4, hkd, hsec, e3, e5, -⟩ := sim_at h h2
      have e1' : F (w k) 1 = R 17 k := e1
      have e2' : F (w k) 2 = R 18 k := e2
      have e4' : F (w k) 4 = R 19 k := e4
      have hkd' : R 17 k = 1 ∨ R 17 k = 2 ∨ R 17 k = 3 ∨ R 17 k = 4 ∨ R 17 k = 5 := hkd
      have hsec' : R 18 k = 1 ∨ R 18 k = 2 := hsec
      rw [e1', ← e4']
      rcases hkd' with z | z | z | z | z
      · have hoff : onS (F (w k), I (w k)) = false := by unfold onS; rw [show (F (w k), I (w k)).1 1 = 1 from e1'.trans z]; decide
        rcases hsec' with y | y
        · obtain ⟨r, c', M', F', R', q1, q2, q3⟩ := Sim_notifyAt1 (N := N) (A := A) (X := X) (B := B) (Y := Y) (Sim_rem h h2 hoff) hx (e1'.trans z) (R 22 k) (R 23 k) hN
          rw [z, e2', y]
          exact ⟨r, c', M', F', I, _, R', q1, q2, q3⟩
        · obtain ⟨r, c', M', F', R', q1, q2, q3⟩ := Sim_notifyAt2 (N := N) (A := A) (X := X) (B := B) (Y := Y) (Sim_rem h h2 hoff) hx (e1'.trans z) (R 22 k) (R 23 k) hN
          rw [z, e2', y]
          exact ⟨r, c', M', F', I, _, R', q1, q2, q3⟩
      · have hoff : onS (F (w k), I (w k)) = false := by unfold onS; rw [show (F (w k), I (w k)).1 1 = 2 from e1'.trans z]; decide
        obtain ⟨r, c', M', F', R', q1, q2, q3⟩ := Sim_askAt (N := N) (A := A) (X := X) (B := B) (Y := Y) (Sim_rem h h2 hoff) hx (e1'.trans z) (by rw [e2']; exact hsec') (F (w k) 4) (R 22 k) (R 23 k) hN
        rw [z, ← e2']
        exact ⟨r, c', M', F', I, _, R', q1, q2, q3⟩
      · have hoff : onS (F (w k), I (w k)) = false := by unfold onS; rw [show (F (w k), I (w k)).1 1 = 3 from e1'.trans z]; decide
        rcases hsec' with y | y
        · obtain ⟨r, c', M', F', R', q1, q2, q3⟩ := Sim_tellAt1 (N := N) (A := A) (X := X) (B := B) (Y := Y) (Sim_rem h h2 hoff) hx (e1'.trans z) (R 22 k) (R 23 k) hN
          rw [z, e2', y]
          exact ⟨r, c', M', F', I, _, R', q1, q2, q3⟩
        · obtain ⟨r, c', M', F', R', q1, q2, q3⟩ := Sim_tellAt2 (N := N) (A := A) (X := X) (B := B) (Y := Y) (Sim_rem h h2 hoff) hx (e1'.trans z) (R 22 k) (R 23 k) hN
          rw [z, e2', y]
          exact ⟨r, c', M', F', I, _, R', q1, q2, q3⟩
      · have e3' : F (w k) 3 = R 22 k := e3 z
        rw [z, e2', ← e3']
        rcases hsec' with y | y
        · obtain ⟨r, c', M', F', I', R', q1, q2, q3⟩ := Sim_fetchAt1 (N := N) (A := A) (X := X) (B := B) (Y := Y) h h2 (e1'.trans z) (e2'.trans y) (R 23 k) hn hN
          rw [y]
          exact ⟨r, c', M', F', I', _, R', q1, q2, q3⟩
        · obtain ⟨r, c', M', F', I', R', q1, q2, q3⟩ := Sim_fetchAt2 (N := N) (A := A) (X := X) (B := B) (Y := Y) h h2 (e1'.trans z) (e2'.trans y) (R 23 k) hn hN
          rw [y]
          exact ⟨r, c', M', F', I', _, R', q1, q2, q3⟩
      · obtain ⟨-, -, p9, p8⟩ := e5 z
        have p9' : F (w k) 9 = R 22 k := p9
        have p8' : F (w k) 8 = R 23 k := p8
        have h9 : F (w k) 9 = 0 ∨ F (w k) 9 = 1 := by rw [p9']; exact hB.2.2.2.2.2.1 k (by omega)
        have hb' : ¬ ∃ q, q < k ∧ F (w q) 1 = 5 ∧ F (w q) 2 = F (w k) 2 := fun q => hb ⟨e1'.trans z, q⟩
        rw [z, e2', ← p9', ← p8']
        rcases hsec' with y | y
        · obtain ⟨r, c', M', w', R', q1, q2, q3⟩ := Sim_partAt1 (N := N) (A := A) (X := X) (B := B) (Y := Y) h h2 (e1'.trans z) (e2'.trans y) h9 hb' hN
          rw [y]
          exact ⟨r, c', M', F, I, w', R', q1, q2, q3⟩
        · obtain ⟨r, c', M', w', R', q1, q2, q3⟩ := Sim_partAt2 (N := N) (A := A) (X := X) (B := B) (Y := Y) h h2 (e1'.trans z) (e2'.trans y) h9 hb' hN
          rw [y]
          exact ⟨r, c', M', F, I, w', R', q1, q2, q3⟩
  · refine ⟨0, c, M, F, I, w, R, ?_, ?_, h⟩
    · unfold f_ZoneNodes_deliver
      rw [cr0_3, zb1_some, ck6, zb1_some, s_at m2 m1, zb1_some, if_neg hi, zbo_none]
    · unfold f_ZoneNodesModel_deliver
      rw [rck, zb1_some, k_isMessage m3 (by omega), zb1_some, if_neg hi, if_pos rfl]
end ZSIMP
