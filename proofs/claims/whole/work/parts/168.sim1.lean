/-! need, change -/
def inRec (a b c : Int32) : Prop := (0 ≤ a ∧ a ≤ 7) ∧ (1 ≤ b ∧ b ≤ 4) ∧ 0 ≤ c ∧ c ≤ 7
theorem ni_range {i : Int32} {lo hi : Nat} (hlo : lo < 65536) (hhi : hi < 65536) (h1 : ni lo ≤ i) (h2 : i ≤ ni hi) : ∃ k, lo ≤ k ∧ k ≤ hi ∧ i = ni k := by
  have h0 : (0 : Int32) ≤ ni lo := Int32.not_lt.mp (ni_nonneg (a := lo) (by omega))
  have hi0 := ni_of (Int32.le_trans h0 h1)
  have hl := Int32.toNatClampNeg_lt i
  refine ⟨i.toNatClampNeg, ?_, ?_, hi0⟩
  · rw [hi0] at h1
    exact (ni_le (a := lo) (b := i.toNatClampNeg) (by omega) (by omega)).mp h1
  · rw [hi0] at h2
    exact (ni_le (a := i.toNatClampNeg) (b := hi) (by omega) (by omega)).mp h2
theorem inRec_ni {a b c : Int32} (h : inRec a b c) : ∃ nm ty v, nm < 8 ∧ 1 ≤ ty ∧ ty ≤ 4 ∧ v < 8 ∧ a = ni nm ∧ b = ni ty ∧ c = ni v := by
  obtain ⟨⟨a1, a2⟩, ⟨b1, b2⟩, c1, c2⟩ := h
  obtain ⟨nm, -, n2, n3⟩ := ni_range (lo := 0) (hi := 7) (by decide) (by decide) a1 a2
  obtain ⟨ty, t1, t2, t3⟩ := ni_range (lo := 1) (hi := 4) (by decide) (by decide) b1 b2
  obtain ⟨v, -, v2, v3⟩ := ni_range (lo := 0) (hi := 7) (by decide) (by decide) c1 c2
  exact ⟨nm, ty, v, by omega, t1, t2, by omega, n3, t3, v3⟩
theorem s_isRecord {N : Nat} {X : zh_T} (a b c : Int32) : f_ZoneNodes_isRecord N X a b c = some (pif (inRec a b c) 1 0) := by
  unfold f_ZoneNodes_isRecord inRec
  simp only [s_within, zb1_some]
  by_cases h1 : 0 ≤ a ∧ a ≤ 7
  · rw [if_pos h1, if_neg (by decide)]
    by_cases h2 : 1 ≤ b ∧ b ≤ 4
    · rw [if_pos h2, if_neg (by decide)]
      by_cases h3 : 0 ≤ c ∧ c ≤ 7
      · rw [if_pos h3, if_neg (by decide), pif_pos ⟨h1, h2, h3⟩]
      · rw [if_neg h3, if_pos rfl, pif_neg (fun q => h3 q.2.2)]
    · rw [if_neg h2, if_pos rfl, pif_neg (fun q => h2 q.2.1)]
  · rw [if_neg h1, if_pos rfl, pif_neg (fun q => h1 q.1)]
theorem k_isRecord {N : Nat} {X : zh_T} (a b c : Int32) : f_ZoneNodesModel_isRecord N X a b c = some (pif (inRec a b c) 1 0) := by
  unfold f_ZoneNodesModel_isRecord inRec
  by_cases a1 : a < 0
  · rw [if_pos a1, pif_neg (fun q => absurd a1 (Int32.not_lt.mpr q.1.1))]
  rw [if_neg a1]
  by_cases a2 : 7 < a
  · rw [if_pos a2, pif_neg (fun q => absurd a2 (Int32.not_lt.mpr q.1.2))]
  rw [if_neg a2]
  by_cases b1 : b < 1
  · rw [if_pos b1, pif_neg (fun q => absurd b1 (Int32.not_lt.mpr q.2.1.1))]
  rw [if_neg b1]
  by_cases b2 : 4 < b
  · rw [if_pos b2, pif_neg (fun q => absurd b2 (Int32.not_lt.mpr q.2.1.2))]
  rw [if_neg b2]
  by_cases c1 : c < 0
  · rw [if_pos c1, pif_neg (fun q => absurd c1 (Int32.not_lt.mpr q.2.2.1))]
  rw [if_neg c1]
  by_cases c2 : 7 < c
  · rw [if_pos c2, pif_neg (fun q => absurd c2 (Int32.not_lt.mpr q.2.2.2))]
  rw [if_neg c2, pif_pos ⟨⟨Int32.not_lt.mp a1, Int32.not_lt.mp a2⟩, ⟨Int32.not_lt.mp b1, Int32.not_lt.mp b2⟩, Int32.not_lt.mp c1, Int32.not_lt.mp c2⟩]
def sayR (r : Nat → Int32) (i : Nat) (d : zD) : Nat → Int32 := upd (upd (upd (upd r (4 * i) (ni d.1)) (4 * i + 1) (ni d.2.1)) (4 * i + 2) (ni d.2.2.1)) (4 * i + 3) (ni d.2.2.2)
theorem sayR_at (r : Nat → Int32) (i : Nat) (d : zD) : rdr (fun _ => sayR r i d) i d := by
  unfold rdr sayR upd
  refine ⟨?_, ?_, ?_, ?_⟩
  · simp
  · simp
  · simp
  · simp
theorem sayR_other {r : Nat → Int32} {i j : Nat} {d d' : zD} (hij : j ≠ i) (h : rdr (fun _ => r) j d') : rdr (fun _ => sayR r i d) j d' := by
  obtain ⟨h1, h2, h3, h4⟩ := h
  have e : ∀ t, t < 4 → sayR r i d (4 * j + t) = r (4 * j + t) := by
    intro t ht
    unfold sayR
    rw [upd_ne _ (by omega), upd_ne _ (by omega), upd_ne _ (by omega), upd_ne _ (by omega)]
  exact ⟨(e 0 (by decide)).trans h1, (e 1 (by decide)).trans h2, (e 2 (by decide)).trans h3, (e 3 (by decide)).trans h4⟩
section ZSIM1
variable {A B : Nat} {X Y : zh_T} {M F I J G K : Nat → Nat → Int32} {w e : Nat → Nat} {R : Nat → Nat → Int32} {N n c jc pd : Nat} {s0 : Int32} {V : Nat → Nat → Bool}
theorem k_say {i : Nat} {d : zD} (hi : i < 8) : f_ZoneNodesModel_say N (zR B Y R) B (ni i) (ni d.1) (ni d.2.1) (ni d.2.2.1) (ni d.2.2.2) = some ((), zR B Y (zu R 11 (sayR (R 11) i d))) := by
  unfold f_ZoneNodesModel_say sayR
  rw [rr16, zb1_some, show (4 : Int32) = ni 4 from rfl, ni_mul, rs11 (i := 4 * i) (by omega), zb1_some, rr16, zb1_some, ni_succ, rs11 (i := 4 * i + 1) (by omega), zb1_some, rr16, zb1_some, show (2 : Int32) = ni 2 from rfl, ni_add, rs11 (i := 4 * i + 2) (by omega), zb1_some, rr16, zb1_some, show (3 : Int32) = ni 3 from rfl, ni_add, rs11 (i := 4 * i + 3) (by omega), zb1_some]
  simp only [zu_zu, zu_same]
theorem o_need (h : Sim s0 V n c jc pd M F I J G K w e R) (fm a b v : Int32) : ∃ r M' R', f_ZoneNodes_need N (zC A X M F I J G K w e) A fm a b v = some (r, zC A X M' F I J G K w e) ∧ f_ZoneNodesModel_need N (zR B Y R) B fm a b v = some (r, zR B Y R') ∧ Sim s0 V n c jc pd M' F I J G K w e R' := by
  unfold f_ZoneNodes_need f_ZoneNodesModel_need
  rw [s_within, zb1_some, s_isRecord, zb1_some, k_isRecord, zb1_some]
  by_cases f1 : 0 ≤ fm
  · by_cases f2 : fm ≤ 4
    · rw [if_pos (show 0 ≤ fm ∧ fm ≤ 4 from ⟨f1, f2⟩), if_neg (by decide), if_neg (Int32.not_lt.mpr f1), if_neg (Int32.not_lt.mpr f2)]
      by_cases hr : inRec a b v
      · rw [pif_pos hr, if_neg (by decide), if_neg (by decide)]
        obtain ⟨hA, ⟨nc, cc, Dn, Dc, d1, d2, d3, d4, d5, d6, d7, d8⟩, hrest⟩ := h
        obtain ⟨nm, ty, u, n1, t1, t2, v1, rfl, rfl, rfl⟩ := inRec_ni hr
        obtain ⟨fk, -, k2, rfl⟩ := ni_range (lo := 0) (hi := 4) (by decide) (by decide) f1 f2
        rw [cr0_2, zb1_some, s_coded, zb1_some, ck3, zb1_some, s_addNeed d3 d1, rg14, zb1_some, d4, zb1_some, rck, zb1_some]
        by_cases hlt : nc < 4
        · have hs := k_say (N := N) (B := B) (Y := Y) (R := R) (i := nc) (d := (fk, nm, ty, u)) (by omega)
          rw [if_pos hlt, zb2_some, if_neg (by decide), if_pos (show ni nc < 4 from (ni_lt (a := nc) (b := 4) (by omega) (by decide)).mpr hlt), hs, zb2_some, rg14, zb1_some, rq14, zb1_some]
          refine ⟨1, _, _, rfl, rfl, ?_⟩
          refine ⟨hA, ⟨nc + 1, cc, fun i => if i = nc then (fk, nm, ty, u) else Dn i, Dc, by omega, d2, ?_, ?_, d5, d6, fun i hi => ?_, fun i hi => ?_⟩, hrest⟩
          · show upd (M 3) 2 (ni (nc + 1)) 2 = ni (nc + 1)
            exact upd_eq _ _ _
          · show R 0 14 + 1 = ni (nc + 1)
            rw [d4, ni_succ]
          · show dok 5 (if i = nc then (fk, nm, ty, u) else Dn i) ∧ upd (M 4) nc (cd fk nm ty u) i = cdd (if i = nc then (fk, nm, ty, u) else Dn i) ∧ rdr (fun _ => sayR (R 11) nc (fk, nm, ty, u)) i (if i = nc then (fk, nm, ty, u) else Dn i)
            by_cases ei : i = nc
            · subst ei
              rw [if_pos rfl, upd_eq]
              exact ⟨⟨by show fk < 5; omega, n1, t1, t2, v1⟩, rfl, sayR_at _ _ _⟩
            · obtain ⟨q1, q2, q3⟩ := d7 i (by omega)
              rw [if_neg ei, upd_ne _ ei]
              exact ⟨q1, q2, sayR_other ei q3⟩
          · obtain ⟨q1, q2, q3⟩ := d8 i hi
            exact ⟨q1, q2, sayR_other (by omega) q3⟩
        · rw [if_neg hlt, zb2_some, if_pos rfl, if_neg (show ¬ ni nc < 4 from fun q => hlt ((ni_lt (a := nc) (b := 4) (by omega) (by decide)).mp q))]
          exact ⟨0, M, R, rfl, rfl, hA, ⟨nc, cc, Dn, Dc, d1, d2, d3, d4, d5, d6, d7, d8⟩, hrest⟩
      · rw [pif_neg hr, if_pos rfl, if_pos rfl]
        exact ⟨0, M, R, rfl, rfl, h⟩
    · rw [if_neg (show ¬ (0 ≤ fm ∧ fm ≤ 4) from fun q => f2 q.2), if_pos rfl, if_neg (Int32.not_lt.mpr f1), if_pos (Int32.not_le.mp f2)]
      exact ⟨0, M, R, rfl, rfl, h⟩
  · rw [if_neg (show ¬ (0 ≤ fm ∧ fm ≤ 4) from fun q => f1 q.1), if_pos rfl, if_pos (Int32.not_le.mp f1)]
    exact ⟨0, M, R, rfl, rfl, h⟩
end ZSIM1
