/-! update: the refusal; what an update makes of a set -/
theorem firstN_congr {s t : Nat → Bool} {D : Nat → zD} {c : Nat} (hD : ∀ i, i < c → dok 5 (D i)) (h : sEq s t) : ∀ (m i : Nat), i + m ≤ c → firstN s D i m = firstN t D i m
  | 0, _, _ => rfl
  | m + 1, i, hi => by
    unfold firstN
    rw [ansN_congr (hD i (by omega)) h, firstN_congr hD h m (i + 1) (by omega)]
theorem exactN_congr {s t : Nat → Bool} {D : Nat → zD} {c : Nat} {d : zD} (hd : dok 5 d) (h : sEq s t) : exactN s D c d ↔ exactN t D c d := by
  obtain ⟨-, h1, h2, h3, -⟩ := hd
  unfold exactN
  constructor
  · intro q u hu
    rw [← h (pl d.2.1 d.2.2.1 u) (by unfold pl; omega)]
    exact q u hu
  · intro q u hu
    rw [h (pl d.2.1 d.2.2.1 u) (by unfold pl; omega)]
    exact q u hu
theorem unmetN_congr {s t : Nat → Bool} {D : Nat → zD} {c : Nat} (hD : ∀ i, i < c → dok 5 (D i)) (h : sEq s t) {r : Int32} (hr : unmetN s D c r) : unmetN t D c r := by
  have e := firstN_congr hD h c 0 (by omega)
  unfold unmetN at hr ⊢
  rw [← e]
  rcases hr with q | ⟨q1, ⟨i, q2, q3, q4⟩, q5⟩ | ⟨q1, q2, q3⟩
  · exact Or.inl q
  · exact Or.inr (Or.inl ⟨q1, ⟨i, q2, q3, fun z => q4 ((exactN_congr (hD i q2) h).mpr z)⟩, q5⟩)
  · refine Or.inr (Or.inr ⟨q1, ?_, q3⟩)
    rintro ⟨i, z1, z2, z3⟩
    exact q2 ⟨i, z1, z2, fun z => z3 ((exactN_congr (hD i z1) h).mp z)⟩
theorem unmetN_pos {s : Nat → Bool} {D : Nat → zD} {c : Nat} {r : Int32} (hr : unmetN s D c r) : r = 0 ∨ ¬ r ≤ 0 := by
  rcases hr with ⟨q1, q2⟩ | ⟨-, -, q⟩ | ⟨-, -, q⟩
  · refine Or.inr ?_
    rw [q2]
    have := firstN_lt s D c 0
    intro z
    exact q1 ((ni_le0 (x := firstN s D 0 c) (by omega)).mp z)
  · exact Or.inr (by rw [q]; decide)
  · exact Or.inl q
theorem cnt_single (p : Nat) : ∀ (n o : Nat), cnt (fun q => decide (q = p)) o n ≤ 1
  | 0, _ => by
    show 0 ≤ 1
    omega
  | n + 1, o => by
    unfold cnt
    by_cases h : o = p
    · have e : cnt (fun q => decide (q = p)) (o + 1) n = 0 := (cnt_zero n (o + 1)).mpr fun q h1 h2 => decide_eq_false (by omega)
      rw [e]
      split <;> omega
    · rw [decide_eq_false h, if_neg (by decide)]
      have := cnt_single p n (o + 1)
      omega
theorem chg_new (s : Nat → Bool) {d : zD} (q : Nat) (h : chg s d.1 d.2.1 d.2.2.1 d.2.2.2 q = true) : s q = true ∨ q = pl d.2.1 d.2.2.1 d.2.2.2 := by
  unfold chg at h
  split at h
  · unfold sAdd at h
    split at h
    · split at h
      · unfold sPut at h
        rw [Bool.or_eq_true, decide_eq_true_eq] at h
        exact h
      · exact Or.inl h
    · rename_i h2
      have h2' : d.2.2.1 = 2 := Decidable.not_not.mp h2
      split at h
      · unfold sPut sClr at h
        rw [Bool.or_eq_true, decide_eq_true_eq, Bool.and_eq_true] at h
        rw [h2']
        exact h.imp (fun z => z.1) id
      · exact Or.inl h
  · split at h
    · unfold sClear at h
      split at h
      · exact Or.inl h
      · unfold sClr at h
        rw [Bool.and_eq_true] at h
        exact Or.inl h.1
    · split at h
      · unfold sWipe at h
        rw [Bool.and_eq_true] at h
        exact Or.inl h.1
      · unfold sRem at h
        split at h
        · exact Or.inl h
        · unfold sDel at h
          rw [Bool.and_eq_true] at h
          exact Or.inl h.1
theorem chgs_new (D : Nat → zD) : ∀ (m i : Nat) (s : Nat → Bool), cnt (fun q => chgs D i m s q && !s q) 0 256 ≤ m
  | 0, i, s => by
    have e : cnt (fun q => chgs D i 0 s q && !s q) 0 256 = 0 := (cnt_zero 256 0).mpr fun q _ _ => by
      show (s q && !s q) = false
      cases s q <;> rfl
    rw [e]
    omega
  | m + 1, i, s => by
    have ih := chgs_new D m (i + 1) (chg s (D i).1 (D i).2.1 (D i).2.2.1 (D i).2.2.2)
    have h1 : cnt (fun q => chg s (D i).1 (D i).2.1 (D i).2.2.1 (D i).2.2.2 q && !s q) 0 256 ≤ 1 := by
      refine Nat.le_trans (cnt_mono (t := fun q => decide (q = pl (D i).2.1 (D i).2.2.1 (D i).2.2.2)) 256 0 fun q _ _ hq => ?_) (cnt_single _ 256 0)
      rw [Bool.and_eq_true, Bool.not_eq_true'] at hq
      rcases chg_new s q hq.1 with z | z
      · rw [z] at hq
        exact absurd hq.2 (by decide)
      · exact decide_eq_true z
    have h2 := cnt_or (s := fun q => chgs D i (m + 1) s q && !s q) (t := fun q => chgs D (i + 1) m (chg s (D i).1 (D i).2.1 (D i).2.2.1 (D i).2.2.2) q && !chg s (D i).1 (D i).2.1 (D i).2.2.1 (D i).2.2.2 q) (u := fun q => chg s (D i).1 (D i).2.1 (D i).2.2.1 (D i).2.2.2 q && !s q) 256 0 fun q _ _ hq => by
      have hq' : (chgs D (i + 1) m (chg s (D i).1 (D i).2.1 (D i).2.2.1 (D i).2.2.2) q && !s q) = true := hq
      rw [Bool.and_eq_true] at hq'
      show (chgs D (i + 1) m (chg s (D i).1 (D i).2.1 (D i).2.2.1 (D i).2.2.2) q && !chg s (D i).1 (D i).2.1 (D i).2.2.1 (D i).2.2.2 q) = true ∨ (chg s (D i).1 (D i).2.1 (D i).2.2.1 (D i).2.2.2 q && !s q) = true
      rw [hq'.1, hq'.2]
      cases chg s (D i).1 (D i).2.1 (D i).2.2.1 (D i).2.2.2 q <;> simp
    omega
theorem chg_alias (s : Nat → Bool) {d : zD} (hd : dok 4 d) (h : ∀ a, a < 8 → cnt s (32 * a + 8) 8 ≤ 1) (a : Nat) (ha : a < 8) : cnt (chg s d.1 d.2.1 d.2.2.1 d.2.2.2) (32 * a + 8) 8 ≤ 1 := by
  obtain ⟨-, h1, h2, h3, h4⟩ := hd
  have sub : ∀ t : Nat → Bool, (∀ q, 32 * a + 8 ≤ q → q < 32 * a + 8 + 8 → t q = true → s q = true) → cnt t (32 * a + 8) 8 ≤ 1 := fun t ht => Nat.le_trans (cnt_mono 8 (32 * a + 8) ht) (h a ha)
  unfold chg
  split
  · unfold sAdd
    split
    · rename_i h2'
      split
      · refine sub _ fun q q1 q2 hq => ?_
        unfold sPut at hq
        rw [Bool.or_eq_true, decide_eq_true_eq] at hq
        rcases hq with z | z
        · exact z
        · unfold pl at z
          omega
      · exact h a ha
    · split
      · by_cases e : a = d.2.1
        · refine Nat.le_trans (cnt_mono (t := fun q => decide (q = pl d.2.1 2 d.2.2.2)) 8 (32 * a + 8) fun q q1 q2 hq => ?_) (cnt_single _ 8 _)
          unfold sPut sClr at hq
          rw [Bool.or_eq_true, Bool.and_eq_true, Bool.not_eq_true', decide_eq_false_iff_not] at hq
          rcases hq with z | z
          · exfalso
            apply z.2
            omega
          · exact z
        · refine sub _ fun q q1 q2 hq => ?_
          unfold sPut sClr at hq
          rw [Bool.or_eq_true, Bool.and_eq_true, decide_eq_true_eq] at hq
          rcases hq with z | z
          · exact z.1
          · unfold pl at z
            omega
      · exact h a ha
  · split
    · unfold sClear
      split
      · exact h a ha
      · refine sub _ fun q _ _ hq => ?_
        unfold sClr at hq
        rw [Bool.and_eq_true] at hq
        exact hq.1
    · split
      · refine sub _ fun q _ _ hq => ?_
        unfold sWipe at hq
        rw [Bool.and_eq_true] at hq
        exact hq.1
      · unfold sRem
        split
        · exact h a ha
        · refine sub _ fun q _ _ hq => ?_
          unfold sDel at hq
          rw [Bool.and_eq_true] at hq
          exact hq.1
theorem chgs_alias {D : Nat → zD} {c : Nat} (hD : ∀ i, i < c → dok 4 (D i)) : ∀ (m i : Nat) (s : Nat → Bool), i + m ≤ c → (∀ a, a < 8 → cnt s (32 * a + 8) 8 ≤ 1) → ∀ a, a < 8 → cnt (chgs D i m s) (32 * a + 8) 8 ≤ 1
  | 0, _, _, _, h => h
  | m + 1, i, s, hi, h => chgs_alias hD m (i + 1) _ (by omega) (chg_alias s (hD i (by omega)) h)
/-- rows of bytes are one if their sets are -/
theorem row_same {g g' : Nat → Int32} (h : okS g) (h' : okS g') : (∀ j, j < 32 → g j = g' j) ↔ sEq (cs g) (cs g') := by
  constructor
  · intro q p hp
    unfold cs
    rw [q (p / 8) (by omega)]
  · intro q j hj
    refine bt_ext (h j hj) (h' j hj) fun b hb => ?_
    have := q (8 * j + b) (by omega)
    rw [cs_at g j hb, cs_at g' j hb] at this
    exact this
theorem bit_same {g g' : Nat → Int32} {n m : Nat} (h : b01 g n) (h' : b01 g' m) (hn : 256 ≤ n) (hm : 256 ≤ m) : (∀ j, 0 ≤ j → j < 256 → g j = g' j) ↔ sEq (rb g) (rb g') := by
  constructor
  · intro q p hp
    unfold rb
    rw [q p (Nat.zero_le p) hp]
  · intro q j _ hj
    refine (dfS_iff h h' (by omega) (by omega)).mpr ?_
    unfold dfS
    rw [q j hj]
    cases rb g' j <;> rfl
section ZSIMR
variable {A B : Nat} {X Y : zh_T} {M F I J G K : Nat → Nat → Int32} {w e : Nat → Nat} {R : Nat → Nat → Int32} {N n c jc pd : Nat} {s0 : Int32} {V : Nat → Nat → Bool}
theorem refusal_eq (h : Sim s0 V n c jc pd M F I J G K w e R) (k t sl : Int32) (hN : 300 < N) : ∃ r, f_ZoneNodes_refusal N (zC A X M F I J G K w e) A k t sl = some r ∧ f_ZoneNodesModel_refusal N (zR B Y R) B k t sl = some r ∧ (r = 0 ∨ ¬ r ≤ 0) := by
  unfold f_ZoneNodes_refusal f_ZoneNodesModel_refusal
  rw [ck0, zb1_some, s_knowsKey, zb1_some]
  have v17 : (17 : Int32) = 0 ∨ ¬ (17 : Int32) ≤ 0 := Or.inr (by decide)
  have v18 : (18 : Int32) = 0 ∨ ¬ (18 : Int32) ≤ 0 := Or.inr (by decide)
  have v16 : (16 : Int32) = 0 ∨ ¬ (16 : Int32) ≤ 0 := Or.inr (by decide)
  by_cases h1 : 0 ≤ k
  · by_cases h2 : k ≤ 2
    · obtain ⟨kk, -, k2, rfl⟩ := ni_range (lo := 0) (hi := 2) (by decide) (by decide) h1 h2
      have hk : kk < 3 := by omega
      obtain ⟨z, z1, z2⟩ := seal_eq (N := N) (A := A) (X := X) (B := B) (Y := Y) h hk t (by omega)
      obtain ⟨a1, a2⟩ := simA_key h.1 hk
      have hclk : M 0 6 = R 0 3 := h.1.1
      rw [if_neg (Int32.not_lt.mpr h1), if_neg (Int32.not_lt.mpr h2), rr12, zb1_some, ra9 hk, zb1_some, ni_to (n := kk) (by omega), a2]
      by_cases h0 : R 9 kk = 0
      · rw [pif_neg (fun q => q.2 h0), if_pos rfl, if_pos h0]
        exact ⟨17, rfl, rfl, v17⟩
      · rw [pif_pos ⟨⟨h1, h2⟩, h0⟩, if_neg (by decide), if_neg h0]
        simp only [cr0_2, zb1_some, cr0_0, ck3, rck]
        rw [C_ai (k := 1) (len := 3) (i := kk) (by decide) ⟨by decide, by decide⟩ rfl hk (by decide), zb1_some, z1, zb1_some, z2, zb1_some]
        by_cases hz : z = sl
        · rw [if_pos hz, if_pos hz.symm, cg0_6, zb1_some, hclk, rg3, zb1_some]
          by_cases t1 : 0 < lg_cmp (t.toInt64 - (R 0 3).toInt64) 5
          · rw [if_pos t1, if_pos t1]
            exact ⟨18, rfl, rfl, v18⟩
          · rw [if_neg t1, if_neg t1]
            by_cases t2 : 0 ≤ lg_cmp (t.toInt64 - (R 0 3).toInt64) (-5)
            · rw [if_pos t2, if_pos t2]
              have hP := sim_p h
              have hB := sim_b h
              obtain ⟨-, ⟨nc, cc, Dn, Dc, d1, d2, d3, d4, d5, d6, d7, d8⟩, -⟩ := h
              obtain ⟨r, r1, r2⟩ := s_unmetNeed (N := N) (A := A) (X := X) (F := F) (I := I) (J := J) (G := G) (K := K) (w := w) (e := e) (D := Dn) d3 d1 (fun i hi => ⟨(d7 i hi).1, (d7 i hi).2.1⟩) hP.2.2.2.2.2.2.2.1 (by omega)
              obtain ⟨r', r3, r4⟩ := k_unmet (N := N) (B := B) (Y := Y) (R := R) (D := Dn) d4 d1 (fun i hi => ⟨(d7 i hi).2.2, (d7 i hi).1⟩) hB.1 hN
              have hs : sEq (cs (M 171)) (rb (R 4)) := fun q hq => (hP.2.2.2.2.2.2.2.2.2.1 q hq).trans (hP.2.2.2.2.2.2.2.2.2.2 q hq).symm
              have e1 := unmetN_fun (unmetN_congr (fun i hi => (d7 i hi).1) hs r2) r4
              subst e1
              rw [cr0_4, zb1_some, cr169_0, zb1_some, r1, zb1_some, r3]
              exact ⟨r, rfl, rfl, unmetN_pos r2⟩
            · rw [if_neg t2, if_neg t2]
              exact ⟨18, rfl, rfl, v18⟩
        · rw [if_neg hz, if_neg (fun q => hz q.symm)]
          exact ⟨16, rfl, rfl, v16⟩
    · rw [pif_neg (fun q => h2 q.1.2), if_pos rfl, if_neg (Int32.not_lt.mpr h1), if_pos (Int32.not_le.mp h2)]
      exact ⟨17, rfl, rfl, v17⟩
  · rw [pif_neg (fun q => h1 q.1.1), if_pos rfl, if_pos (Int32.not_le.mp h1)]
    exact ⟨17, rfl, rfl, v17⟩
end ZSIMR
