/-! update: a new version is written -/
theorem SimS_V {s0 : Int32} {V V' : Nat → Nat → Bool} {n s : Nat} {f fr fi : Nat → Int32} {r0 r1 r2 : Int32} {R1 R2 R3 R4 R6 R7 R8 : Nat → Int32} (hV : ∀ k, k ≤ n → V' k = V k) (h : SimS s0 V n s f fr fi r0 r1 r2 R1 R2 R3 R4 R6 R7 R8) : SimS s0 V' n s f fr fi r0 r1 r2 R1 R2 R3 R4 R6 R7 R8 := by
  obtain ⟨c0, c1, c2, c3, c4, c5, c6, c7, c8, c9, c10, c11, c12, c13⟩ := h
  refine ⟨c0, c1, c2, c3, c4, c5, c6, c7, c8, c9, c10, c11, c12, fun z => ?_⟩
  obtain ⟨a, a1, a2, a3, a4⟩ := c13 z
  refine ⟨a, a1, a2, ?_, ?_⟩
  · rw [hV a a1]
    exact a3
  · rw [hV a a1]
    exact a4
theorem SimT_V {s0 : Int32} {V V' : Nat → Nat → Bool} {n s : Nat} {f fr fi : Nat → Int32} {up0 up6 : Int32} {R5 : Nat → Int32} {S : List zMsg} (hV : ∀ k, k ≤ n → V' k = V k) (h : SimT s0 V n s f fr fi up0 up6 R5 S) : SimT s0 V' n s f fr fi up0 up6 R5 S := by
  rcases h with q | ⟨q1, q2, q3, q4, q | ⟨k0, b, wh, z1, z2, z3, z4, z5, z6⟩⟩
  · exact Or.inl q
  · exact Or.inr ⟨q1, q2, q3, q4, Or.inl q⟩
  · refine Or.inr ⟨q1, q2, q3, q4, Or.inr ⟨k0, b, wh, z1, z2, z3, z4, ?_, ?_⟩⟩
    · rw [hV b z2]
      exact z5
    · rw [hV b z2]
      exact z6
theorem SimP_V {s0 : Int32} {V V' : Nat → Nat → Bool} {n : Nat} {M169 M171 M173 : Nat → Int32} {up arm ser kn : Int32} {R4 : Nat → Int32} (hV : ∀ k, k ≤ n → V' k = V k) (h : SimP s0 V n M169 M171 M173 up arm ser kn R4) : SimP s0 V' n M169 M171 M173 up arm ser kn R4 := by
  obtain ⟨x1, x2, x3, x4, x5, x6, x7, x8, x9, x10, x11⟩ := h
  refine ⟨x1, x2, x3, x4, x5, x6, x7, x8, x9, ?_, ?_⟩
  · rw [hV n (Nat.le_refl n)]
    exact x10
  · rw [hV n (Nat.le_refl n)]
    exact x11
/-- the versions with one more -/
def nextV (V : Nat → Nat → Bool) (n : Nat) (s : Nat → Bool) : Nat → Nat → Bool := fun k => if k = n + 1 then s else V k
theorem nextV_lo (V : Nat → Nat → Bool) (n : Nat) (s : Nat → Bool) : ∀ k, k ≤ n → nextV V n s k = V k := fun k hk => if_neg (by omega)
theorem nextV_hi (V : Nat → Nat → Bool) (n : Nat) (s : Nat → Bool) : nextV V n s (n + 1) = s := if_pos rfl
theorem SimV_next {V : Nat → Nat → Bool} {n : Nat} {s : Nat → Bool} (h : SimV V n) (h24 : cnt s 0 256 ≤ 24) (hal : ∀ a, a < 8 → cnt s (32 * a + 8) 8 ≤ 1) (h4 : cnt (fun q => s q && !V n q) 0 256 ≤ 4) : SimV (nextV V n s) (n + 1) := by
  refine ⟨fun k hk => ?_, fun k hk => ?_⟩
  · by_cases e : k = n + 1
    · subst e
      rw [nextV_hi]
      exact ⟨h24, hal⟩
    · rw [nextV_lo V n s k (by omega)]
      exact h.1 k (by omega)
  · by_cases e : k = n
    · subst e
      rw [nextV_hi, nextV_lo V k s k (Nat.le_refl k)]
      exact h4
    · rw [nextV_lo V n s (k + 1) (by omega), nextV_lo V n s k (by omega)]
      exact h.2 k (by omega)
/-- the reference's rows after step 1 -/
def wR0 (R : Nat → Nat → Int32) (jc : Nat) : Nat → Nat → Int32 := zu (zu (zu R 12 (upd (R 12) jc (R 3 0))) 13 (upd (R 13) jc 0)) 15 (upd (R 15) jc 0)
def wR1 (R : Nat → Nat → Int32) (jc : Nat) : Nat → Nat → Int32 :=
  zu (wrM (wR0 R jc) jc (cpR (R 14) (R 16) (256 * jc) 0 0 256) (ni (0 + cnt (dfS (rb (R 16)) (rb (R 4))) 0 256))) 0 (upd (R 0) 18 (ni (jc + 1)))
/-- after step 2 -/
def wR2 (R : Nat → Nat → Int32) (jc : Nat) : Nat → Nat → Int32 := zu (wR1 R jc) 13 (upd (wR1 R jc 13) jc 1)
section ZSIMS
variable {A B : Nat} {X Y : zh_T} {M F I J G K : Nat → Nat → Int32} {w e : Nat → Nat} {R : Nat → Nat → Int32} {N n c jc pd : Nat} {s0 : Int32} {V : Nat → Nat → Bool}
theorem k_write1 (ha : R 0 17 = 1) : f_ZoneNodesModel_write N (zR B Y R) B = zb2 (f_ZoneNodesModel_crash N (zR B Y R) B 0) fun _ Z => some (-1, Z) := by
  unfold f_ZoneNodesModel_write
  rw [rg17, zb1_some, ha, if_pos rfl, zb1_some, if_pos rfl, rck, zb1_some]
theorem k_write_step {r : Option (Int32 × zh_T)} (ha : R 0 17 ≠ 1) (hc : R 0 18 = ni jc) (h5 : jc < 5) (hb16 : b01 (R 16) 256) (hb4 : b01 (R 4) 768) (hN : 300 < N)
    (hr : (if R 0 17 = 2 then zb2 (f_ZoneNodesModel_crash N (zR B Y (wR1 R jc)) B 0) fun _ Z => some (-1, Z) else if R 0 17 = 3 then zb2 (f_ZoneNodesModel_crash N (zR B Y (wR2 R jc)) B 0) fun _ Z => some (-1, Z) else zb2 (f_ZoneNodesModel_install N (zR B Y (wR2 R jc)) B) fun _ Z => some (0, Z)) = r) : f_ZoneNodesModel_write N (zR B Y R) B = r := by
  rw [← hr]
  unfold f_ZoneNodesModel_write
  have h30 : zai (zR B Y R) (B + 3) 0 = some (R 3 0) := ra3 (i := 0) (by decide)
  rw [rg17, zb1_some, if_neg ha, rr19, zb1_some, rg18, zb1_some, rr6, zb1_some, h30, zb1_some, hc, rs12 (i := jc) (by omega), zb1_some, rr20, zb1_some, rg18, zb1_some]
  rw [show zu R 12 (upd (R 12) jc (R 3 0)) 0 18 = ni jc from hc, rs13 (i := jc) (by omega) (Or.inl rfl), zb1_some, rr22, zb1_some, rg18, zb1_some]
  rw [show zu (zu R 12 (upd (R 12) jc (R 3 0))) 13 (upd (zu R 12 (upd (R 12) jc (R 3 0)) 13) jc 0) 0 18 = ni jc from hc, rs15 (i := jc) (by omega), zb1_some]
  have hl := k_write_L (N := N) (B := B) (Y := Y) (e := jc) (by omega) 256 0 N 0 (wR0 R jc) hc (upd_eq _ _ _) hb16 hb4 (by omega) (by omega)
  have hl' : L_ZoneNodesModel_write_45 N B N (zR B Y (zu (zu (zu R 12 (upd (R 12) jc (R 3 0))) 13 (upd (zu R 12 (upd (R 12) jc (R 3 0)) 13) jc 0)) 15 (upd (zu (zu R 12 (upd (R 12) jc (R 3 0))) 13 (upd (zu R 12 (upd (R 12) jc (R 3 0)) 13) jc 0) 15) jc 0))) 0 = some ((), zR B Y (wrM (wR0 R jc) jc (cpR (R 14) (R 16) (256 * jc) 0 0 256) (ni (0 + cnt (dfS (rb (R 16)) (rb (R 4))) 0 256)))) := hl
  rw [hl', zb2_some, rg18, zb1_some, show wrM (wR0 R jc) jc (cpR (R 14) (R 16) (256 * jc) 0 0 256) (ni (0 + cnt (dfS (rb (R 16)) (rb (R 4))) 0 256)) 0 18 = ni jc from hc, ni_succ, rq18, zb1_some]
  rw [show zu (wrM (wR0 R jc) jc (cpR (R 14) (R 16) (256 * jc) 0 0 256) (ni (0 + cnt (dfS (rb (R 16)) (rb (R 4))) 0 256))) 0 (upd (wrM (wR0 R jc) jc (cpR (R 14) (R 16) (256 * jc) 0 0 256) (ni (0 + cnt (dfS (rb (R 16)) (rb (R 4))) 0 256)) 0) 18 (ni (jc + 1))) = wR1 R jc from rfl]
  rw [rg17, zb1_some, show wR1 R jc 0 17 = R 0 17 from rfl, if_neg ha, zb1_some, rck, zb1_some]
  by_cases h2 : R 0 17 = 2
  · rw [if_pos h2, if_pos h2]
  · rw [if_neg h2, if_neg h2, rr20, zb1_some, rg18, zb1_some, show wR1 R jc 0 18 = ni (jc + 1) from rfl, show ni (jc + 1) - 1 = ni jc from ni_pred (a := jc + 1) (by omega), rs13 (i := jc) (by omega) (Or.inr rfl), zb1_some, rg17, zb1_some]
    rw [show zu (wR1 R jc) 13 (upd (wR1 R jc 13) jc 1) = wR2 R jc from rfl, show wR2 R jc 0 17 = R 0 17 from rfl, rck, zb1_some, zb1_some]
/-- the journal with one entry more, whose step 3 is still to come; mk: step 2 is done -/
theorem SimJ_write {new : Nat → Bool} (hP : SimP s0 V n (M 169) (M 171) (M 173) (R 1 0) (R 0 17) (R 3 0) (R 2 0) (R 4)) (hJ : SimJ s0 V n jc 0 (M 174) J G K e (R 1 0) (R 0 18) (R 12) (R 13) (R 14) (R 15)) (hg : sEq (cs (M 173)) new) (hw : sEq (rb (R 16)) new) (mk : Int32) :
    SimJ s0 (nextV V n new) n (jc + 1) 1 (upd (M 174) 1 (ni (jc + 1))) (zu J (e jc) (upd (upd (J (e jc)) 2 (M 169 6)) 3 mk)) (w1G M G (e jc)) (w1K M K (e jc)) e 0 (ni (jc + 1)) (upd (R 12) jc (R 3 0)) (upd (R 13) jc mk) (cpR (R 14) (R 16) (256 * jc) 0 0 256) (upd (R 15) jc (ni (0 + cnt (dfS (rb (R 16)) (rb (R 4))) 0 256))) := by
  obtain ⟨p1, p2, p3, p4, p5, p6, p7, p8, p9, p10, p11⟩ := hP
  obtain ⟨j1, j2, j3, j4, j5, j6, j7, j8, j9⟩ := hJ
  rw [Nat.add_zero] at j3 j4
  refine ⟨Nat.le_refl 1, by omega, by omega, by omega, fun z => absurd z (by decide), upd_eq _ _ _, rfl, j8, fun i hi => ?_⟩
  have hb : n + 1 - (jc + 1) = n - jc := by omega
  rw [hb]
  by_cases hl : i = jc
  · subst hl
    have hbn : n - i + i = n := by omega
    refine ⟨?_, fun z => absurd z (by omega)⟩
    unfold SimE
    rw [hbn, nextV_hi, nextV_lo V n new n (Nat.le_refl n)]
    refine ⟨?_, ?_, ?_, ?_, ?_, ?_, fun q hq => ⟨?_, ?_, ?_⟩⟩
    · show zu J (e i) (upd (upd (J (e i)) 2 (M 169 6)) 3 mk) (e i) 2 = _
      rw [zu_same]
      show M 169 6 = _
      rw [p5, p6]
    · rw [upd_eq, p6]
    · rw [zu_same, upd_eq, upd_eq]
    · unfold w1G
      rw [zu_same]
      exact okS_mix _ fun j hj => byt_and _ (p8 j hj)
    · unfold w1K
      rw [zu_same]
      exact okS_mix _ fun j hj => byt_and _ (p9 j hj)
    · have ec : cnt (dfS (rb (R 16)) (rb (R 4))) 0 256 = cnt (dfS new (V n)) 0 256 := cnt_congr 256 0 fun q _ hq => by
        unfold dfS
        rw [hw q (by omega), p11 q (by omega)]
      rw [upd_eq, Nat.zero_add, ec]
    · unfold w1G
      rw [zu_same, cs_mix _ _ hq, cs_diff, p10 q hq, hg q hq]
    · unfold w1K
      rw [zu_same, cs_mix _ _ hq, cs_diff, p10 q hq, hg q hq]
    · show decide (cpR (R 14) (R 16) (256 * i) 0 0 256 (256 * i + q) = 1) = new q
      rw [cpR_in _ _ hq, Nat.zero_add]
      exact hw q hq
  · have hi' : i < jc := by omega
    obtain ⟨⟨a1, a2, a3, a4, a5, a6, a7⟩, am⟩ := j9 i hi'
    rw [Nat.add_zero] at a1 a2 a6 a7
    have ne : e i ≠ e jc := fun q => hl (j8.2 i jc (by omega) (by omega) q)
    have v1 := nextV_lo V n new (n - jc + i) (by omega)
    have v2 := nextV_lo V n new (n - jc + i + 1) (by omega)
    refine ⟨?_, fun _ => ?_⟩
    · unfold SimE w1G w1K
      rw [zu_ne _ ne, zu_ne _ ne, zu_ne _ ne, upd_ne _ hl, upd_ne _ hl, upd_ne _ hl, v1, v2]
      refine ⟨a1, a2, a3, a4, a5, a6, fun q hq => ⟨(a7 q hq).1, (a7 q hq).2.1, ?_⟩⟩
      show decide (cpR (R 14) (R 16) (256 * jc) 0 0 256 (256 * i + q) = 1) = _
      rw [cpR_out _ _ (by omega)]
      exact (a7 q hq).2.2
    · rw [upd_ne _ hl]
      exact am (by omega)
theorem upd_b01 {g : Nat → Int32} {m i : Nat} {v : Int32} (h : b01 g m) (hv : v = 0 ∨ v = 1) : b01 (upd g i v) m := b01_upd h hv
/-- a crash before step 1 -/
theorem SimW_w1 (h : SimW s0 V n c jc pd M F I J G K w e R) (hu : R 1 0 = 1) (hN : 300 < N) : ∃ c' M' w' R', f_ZoneNodes_takePrimaryDown N (zC A X M F I J G K w e) A = some ((), zC A X M' F I J G K w' e) ∧ f_ZoneNodesModel_crash N (zR B Y R) B 0 = some (1, zR B Y R') ∧ SimW s0 V n c' jc pd M' F I J G K w' e R' := by
  obtain ⟨hA, hD, hB, ⟨p1, p2, p3, p4, p5, p6, p7, p8, p9, p10, p11⟩, ⟨j1, j2, j3, j4, j5, j6, j7, j8, j9⟩, hV, hS1, hS2, hM, hT1, hT2⟩ := h
  obtain ⟨d0, d1, d2, d3, d4, d5, d6, d7, d8, d9, d10, d11, d12, d13⟩ := hS1
  obtain ⟨g0, g1, g2, g3, g4, g5, g6, g7, g8, g9, g10, g11, g12, g13⟩ := hS2
  have hx : SimXW s0 V n c jc pd (zu (zu M 169 (upd (M 169) 8 0)) 169 (upd ((zu M 169 (upd (M 169) 8 0)) 169) 7 0)) F I J G K w e (zu (zu R 1 (upd (R 1) 0 0)) 0 (upd ((zu R 1 (upd (R 1) 0 0)) 0) 17 0)) :=
    ⟨hA, hD, hB, ⟨rfl, Or.inl rfl, rfl, Or.inl rfl, p5, p6, p7, p8, p9, p10, p11⟩, ⟨j1, j2, j3, j4, fun z => absurd z (show ¬ (0 : Int32) = 1 by decide), j6, j7, j8, j9⟩, hV, ⟨d0, d1, d2, d3, d4, d5, d6, d7, d8, d9, d10, d11, d12, d13⟩, ⟨g0, g1, g2, g3, g4, g5, g6, g7, g8, g9, g10, g11, g12, g13⟩, hM⟩
  exact WSim_down hx hu hN
/-- a crash behind step 1 or 2: the rows of the entry are there -/
theorem SimW_w23 {new : Nat → Bool} {mk : Int32} {J' : Nat → Nat → Int32} {R' : Nat → Nat → Int32} (h : SimW s0 V n c jc 0 M F I J G K w e R) (hmk : mk = 0 ∨ mk = 1) (hu : R 1 0 = 1) (hg : sEq (cs (M 173)) new) (hw : sEq (rb (R 16)) new) (h24 : cnt new 0 256 ≤ 24) (hal : ∀ a, a < 8 → cnt new (32 * a + 8) 8 ≤ 1) (h4 : cnt (fun q => new q && !V n q) 0 256 ≤ 4)
    (hJ' : J' = zu J (e jc) (upd (upd (J (e jc)) 2 (M 169 6)) 3 mk)) (hR0 : R' 0 = upd (R 0) 18 (ni (jc + 1))) (hR : ∀ k, k ≠ 0 → k ≠ 12 → k ≠ 13 → k ≠ 14 → k ≠ 15 → R' k = R k) (h12 : R' 12 = upd (R 12) jc (R 3 0)) (h13 : R' 13 = upd (R 13) jc mk) (h14 : R' 14 = cpR (R 14) (R 16) (256 * jc) 0 0 256) (h15 : R' 15 = upd (R 15) jc (ni (0 + cnt (dfS (rb (R 16)) (rb (R 4))) 0 256))) (hN : 300 < N) :
    ∃ c' M1 w' R1, f_ZoneNodes_takePrimaryDown N (zC A X (w1M M jc) F I J' (w1G M G (e jc)) (w1K M K (e jc)) w e) A = some ((), zC A X M1 F I J' (w1G M G (e jc)) (w1K M K (e jc)) w' e) ∧ f_ZoneNodesModel_crash N (zR B Y R') B 0 = some (1, zR B Y R1) ∧ SimW s0 (nextV V n new) n c' (jc + 1) 1 M1 F I J' (w1G M G (e jc)) (w1K M K (e jc)) w' e R1 := by
  obtain ⟨hA, hD, ⟨b1, b2, b3, b4, b5, b6, b7⟩, hP, hJ, hV, hS1, hS2, hM, hT1, hT2⟩ := h
  have hlo := nextV_lo V n new
  have hJ2 := SimJ_write hP hJ hg hw mk
  have hP2 := SimP_V hlo hP
  have hS1' := SimS_V hlo hS1
  have hS2' := SimS_V hlo hS2
  rw [Nat.add_zero] at hV
  have hV2 := SimV_next hV h24 hal h4
  obtain ⟨p1, p2, p3, p4, p5, p6, p7, p8, p9, p10, p11⟩ := hP2
  obtain ⟨d0, d1, d2, d3, d4, d5, d6, d7, d8, d9, d10, d11, d12, d13⟩ := hS1'
  obtain ⟨g0, g1, g2, g3, g4, g5, g6, g7, g8, g9, g10, g11, g12, g13⟩ := hS2'
  have hj5 : jc ≤ 4 := hJ.2.2.2.1
  have hrl : rlist R' c = rlist R c := by
    unfold rlist rmsg
    rw [hR 17 (by decide) (by decide) (by decide) (by decide) (by decide), hR 18 (by decide) (by decide) (by decide) (by decide) (by decide), hR 19 (by decide) (by decide) (by decide) (by decide) (by decide), hR 20 (by decide) (by decide) (by decide) (by decide) (by decide), hR 21 (by decide) (by decide) (by decide) (by decide) (by decide), hR 22 (by decide) (by decide) (by decide) (by decide) (by decide), hR 23 (by decide) (by decide) (by decide) (by decide) (by decide)]
  have hb14 : b01 (cpR (R 14) (R 16) (256 * jc) 0 0 256) 1536 := cpR_b01 b4 b5 (by decide)
  have hx : SimXW s0 (nextV V n new) n c (jc + 1) 1 (zu (zu (w1M M jc) 169 (upd (w1M M jc 169) 8 0)) 169 (upd ((zu (w1M M jc) 169 (upd (w1M M jc 169) 8 0)) 169) 7 0)) F I J' (w1G M G (e jc)) (w1K M K (e jc)) w e (zu (zu R' 1 (upd (R' 1) 0 0)) 0 (upd ((zu R' 1 (upd (R' 1) 0 0)) 0) 17 0)) := by
    have z0 : (zu (zu R' 1 (upd (R' 1) 0 0)) 0 (upd ((zu R' 1 (upd (R' 1) 0 0)) 0) 17 0)) 0 = upd (upd (R 0) 18 (ni (jc + 1))) 17 0 := by
      show upd (R' 0) 17 0 = _
      rw [hR0]
    have z1 : (zu (zu R' 1 (upd (R' 1) 0 0)) 0 (upd ((zu R' 1 (upd (R' 1) 0 0)) 0) 17 0)) 1 = upd (R 1) 0 0 := by
      show upd (R' 1) 0 0 = _
      rw [hR 1 (by decide) (by decide) (by decide) (by decide) (by decide)]
    have zk : ∀ k, k ≠ 0 → k ≠ 1 → k ≠ 12 → k ≠ 13 → k ≠ 14 → k ≠ 15 → (zu (zu R' 1 (upd (R' 1) 0 0)) 0 (upd ((zu R' 1 (upd (R' 1) 0 0)) 0) 17 0)) k = R k := by
      intro k k0 k1 k2 k3 k4 k5
      rw [zu_ne _ k0, zu_ne _ k1, hR k k0 k2 k3 k4 k5]
    have zr : rlist (zu (zu R' 1 (upd (R' 1) 0 0)) 0 (upd ((zu R' 1 (upd (R' 1) 0 0)) 0) 17 0)) c = rlist R c := by
      rw [← hrl]
      rfl
    have zj : ∀ k, 12 ≤ k → k ≤ 15 → (zu (zu R' 1 (upd (R' 1) 0 0)) 0 (upd ((zu R' 1 (upd (R' 1) 0 0)) 0) 17 0)) k = R' k := by
      intro k k0 k1
      rw [zu_ne _ (by omega), zu_ne _ (by omega)]
    unfold SimXW
    rw [z0, z1, zk 2 (by decide) (by decide) (by decide) (by decide) (by decide) (by decide), zk 3 (by decide) (by decide) (by decide) (by decide) (by decide) (by decide), zk 4 (by decide) (by decide) (by decide) (by decide) (by decide) (by decide), zk 5 (by decide) (by decide) (by decide) (by decide) (by decide) (by decide), zk 6 (by decide) (by decide) (by decide) (by decide) (by decide) (by decide), zk 7 (by decide) (by decide) (by decide) (by decide) (by decide) (by decide), zk 8 (by decide) (by decide) (by decide) (by decide) (by decide) (by decide), zk 9 (by decide) (by decide) (by decide) (by decide) (by decide) (by decide), zk 10 (by decide) (by decide) (by decide) (by decide) (by decide) (by decide), zk 16 (by decide) (by decide) (by decide) (by decide) (by decide) (by decide), zk 22 (by decide) (by decide) (by decide) (by decide) (by decide) (by decide), zk 23 (by decide) (by decide) (by decide) (by decide) (by decide) (by decide), zj 12 (by decide) (by decide), zj 13 (by decide) (by decide), zj 14 (by decide) (by decide), zj 15 (by decide) (by decide), zr, h12, h13, h14, h15, hJ']
    exact ⟨hA, hD, ⟨b1, b2, b01_upd b3 hmk, hb14, b5, b6, b7⟩, ⟨rfl, Or.inl rfl, rfl, Or.inl rfl, p5, p6, p7, p8, p9, p10, p11⟩, hJ2, hV2, ⟨d0, d1, d2, d3, d4, d5, d6, d7, d8, d9, d10, d11, d12, d13⟩, ⟨g0, g1, g2, g3, g4, g5, g6, g7, g8, g9, g10, g11, g12, g13⟩, hM⟩
  exact WSim_down hx (by rw [hR 1 (by decide) (by decide) (by decide) (by decide) (by decide)]; exact hu) hN
end ZSIMS
