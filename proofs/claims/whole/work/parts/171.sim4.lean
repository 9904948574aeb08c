/-! size, has, query -/
section ZSIM4
variable {A B : Nat} {X Y : zh_T} {M F I J G K : Nat → Nat → Int32} {w e : Nat → Nat} {R : Nat → Nat → Int32} {N n c jc pd : Nat} {s0 : Int32} {V : Nat → Nat → Bool}
theorem sim_v (h : Sim s0 V n c jc pd M F I J G K w e R) : SimV V (n + pd) := h.2.2.2.2.2.1
theorem node_rec (h : Sim s0 V n c jc pd M F I J G K w e R) {x : Int32} (hx : 0 ≤ x ∧ x ≤ 2) : ∃ xx, xx < 3 ∧ x = ni xx ∧ ((R 2 xx = 0 ∧ f_ZoneNodes_recordsOf N (zC A X M F I J G K w e) A x = some none) ∨
    (R 2 xx = 1 ∧ ∃ k, zrec shC 212 k ∧ fixd (k + 1) ∧ f_ZoneNodes_recordsOf N (zC A X M F I J G K w e) A x = some (some (A + k)) ∧ okS (M (k + 1)) ∧ (∀ q, q < 256 → cs (M (k + 1)) q = rb (R 4) (256 * xx + q)) ∧ ∀ a, a < 8 → cnt (fun q => rb (R 4) (256 * xx + q)) (32 * a + 8) 8 ≤ 1)) := by
  have hV := sim_v h
  have al : ∀ (k xx : Nat), k ≤ n → (∀ q, q < 256 → rb (R 4) (256 * xx + q) = V k q) → ∀ a, a < 8 → cnt (fun q => rb (R 4) (256 * xx + q)) (32 * a + 8) 8 ≤ 1 := by
    intro k xx hk hq a ha
    rw [cnt_congr (t := V k) 8 (32 * a + 8) fun q _ h2 => hq q (by omega)]
    exact (hV.1 k (by omega)).2 a ha
  rcases node_cases hx with rfl | rfl | rfl
  · obtain ⟨-, -, -, -, -, -, p7, p8, -, p10, p11⟩ := sim_p h
    have hq : ∀ q, q < 256 → rb (R 4) (256 * 0 + q) = V n q := fun q hq => by rw [show 256 * 0 + q = q by omega]; exact p11 q hq
    exact ⟨0, by decide, rfl, Or.inr ⟨p7, 170, rec170, fx170, s_recordsOf0, p8, fun q h2 => (p10 q h2).trans (hq q h2).symm, al n 0 (Nat.le_refl n) hq⟩⟩
  · obtain ⟨-, -, -, -, -, -, a7, a8, -, -, -, a12, -, a14⟩ := sim_1 h
    rcases a8 with q | q
    · exact ⟨1, by decide, rfl, Or.inl ⟨q, by rw [s_recordsOf1, a7, if_pos q]⟩⟩
    · obtain ⟨k, k1, -, k3, k4⟩ := a14 q
      exact ⟨1, by decide, rfl, Or.inr ⟨q, 203, rec203, fx203, by rw [s_recordsOf1, a7, q, if_neg n10], a12, fun z h2 => (k3 z h2).trans (k4 z h2).symm, al k 1 k1 k4⟩⟩
  · obtain ⟨-, -, -, -, -, -, a7, a8, -, -, -, a12, -, a14⟩ := sim_2 h
    rcases a8 with q | q
    · exact ⟨2, by decide, rfl, Or.inl ⟨q, by rw [s_recordsOf2, a7, if_pos q]⟩⟩
    · obtain ⟨k, k1, -, k3, k4⟩ := a14 q
      exact ⟨2, by decide, rfl, Or.inr ⟨q, 208, rec208, fx208, by rw [s_recordsOf2, a7, q, if_neg n10], a12, fun z h2 => (k3 z h2).trans (k4 z h2).symm, al k 2 k1 k4⟩⟩
theorem C_ckr {k : Nat} (hk : zrec shC 212 k) : zck (zC A X M F I J G K w e) (A + k) 5 = some () := zl_ck (Nat.lt_of_succ_lt hk.1) hk.2.1
theorem o_size (h : Sim s0 V n c jc pd M F I J G K w e R) (x : Int32) (hN : 300 < N) : ∃ r, f_ZoneNodes_size N (zC A X M F I J G K w e) A x = some r ∧ f_ZoneNodesModel_size N (zR B Y R) B x = some r := by
  unfold f_ZoneNodes_size f_ZoneNodesModel_size
  rw [ck0, zb1_some, k_isNode, zb1_some]
  by_cases hx : 0 ≤ x ∧ x ≤ 2
  · obtain ⟨xx, x3, hxe, hcase⟩ := node_rec (N := N) (A := A) (X := X) h hx
    rw [if_pos hx, if_neg n10, rr5, zb1_some]
    rcases hcase with ⟨q, hr⟩ | ⟨q, k, z1, z2, hr, z3, z4, z5⟩
    · rw [hr, zb1_some, zbo_none, hxe, ra2 x3, zb1_some, q, if_pos rfl]
      exact ⟨-1, rfl, rfl⟩
    · have hm : mC M F I J G K (k + 1) = M (k + 1) := mC_fix z2
      have ht : f_Records_total N (zC A X M F I J G K w e) (A + k) = some (ni (cnt (cs (M (k + 1))) 0 256)) := by
        rw [zC, s_total z1 (by rw [hm]; exact z3) (by omega), hm]
      have hs := k_size_L (N := N) (B := B) (Y := Y) (R := R) x3 (sim_b h).1 256 (256 * xx) N 0 (by omega) (by omega)
      have hs' : L_ZoneNodesModel_size_26 N (zR B Y R) B (ni xx) N 0 (256 * ni xx) = some (ni (0 + cnt (rb (R 4)) (256 * xx) 256)) := by
        rw [show (256 : Int32) = ni 256 from rfl, ni_mul]
        exact hs
      rw [hr, zb1_some, zbo_some, C_ckr z1, zb1_some, ht, zb1_some, hxe, ra2 x3, zb1_some, q, if_neg n10, hs', zb1_some]
      refine ⟨_, rfl, ?_⟩
      have e1 := cnt_shift (rb (R 4)) 256 0 (256 * xx)
      rw [Nat.add_zero] at e1
      rw [Nat.zero_add, ← e1, cnt_congr (s := cs (M (k + 1))) (t := fun q => rb (R 4) (256 * xx + q)) 256 0 fun q _ h2 => z4 q (by omega)]
  · rw [s_recordsOfN hx, zb1_some, zbo_none, if_neg hx, if_pos rfl]
    exact ⟨-1, rfl, rfl⟩
theorem o_has (h : Sim s0 V n c jc pd M F I J G K w e R) (x a b v : Int32) : ∃ r, f_ZoneNodes_has N (zC A X M F I J G K w e) A x a b v = some r ∧ f_ZoneNodesModel_has N (zR B Y R) B x a b v = some r := by
  unfold f_ZoneNodes_has f_ZoneNodesModel_has
  rw [ck0, zb1_some, k_isNode, zb1_some, k_isRecord, zb1_some]
  by_cases hx : 0 ≤ x ∧ x ≤ 2
  · obtain ⟨xx, x3, hxe, hcase⟩ := node_rec (N := N) (A := A) (X := X) h hx
    rw [if_pos hx, if_neg n10, rr5, zb1_some]
    rcases hcase with ⟨q, hr⟩ | ⟨q, k, z1, z2, hr, z3, z4, z5⟩
    · rw [hr, zb1_some, zbo_none, hxe, ra2 x3, zb1_some, q, if_pos rfl]
      exact ⟨0, rfl, rfl⟩
    · rw [hr, zb1_some, zbo_some, s_isRecord, zb1_some, hxe, ra2 x3, zb1_some, q, if_neg n10]
      by_cases hi : inRec a b v
      · obtain ⟨nm, ty, u, n1, t1, t2, v1, rfl, rfl, rfl⟩ := inRec_ni hi
        have hm : mC M F I J G K (k + 1) = M (k + 1) := mC_fix z2
        have hco : f_Records_contains N (zC A X M F I J G K w e) (A + k) (ni nm) (ni ty) (ni u) = some (if bt (M (k + 1) (4 * nm + ty - 1)) u then 1 else 0) := by
          rw [zC, s_contains z1 n1 t1 t2 v1, hm]
        have hp : pl nm ty u < 256 := by unfold pl; omega
        have hbit : bt (M (k + 1) (4 * nm + ty - 1)) u = rb (R 4) (256 * xx + pl nm ty u) := by
          rw [← z4 _ hp]
          unfold cs pl
          rw [show (32 * nm + 8 * (ty - 1) + u) / 8 = 4 * nm + ty - 1 by omega, show (32 * nm + 8 * (ty - 1) + u) % 8 = u by omega]
        rw [pif_pos hi, if_neg n10, if_neg n10, C_ckr z1, zb1_some, hco, zb1_some, rr7, zb1_some, k_place t1, zb1_some, show (256 : Int32) = ni 256 from rfl, ni_mul, ni_add, ra4 (i := 256 * xx + pl nm ty u) (by omega), zb1_some, hbit]
        have hz := rb_zero (sim_b h).1 (show 256 * xx + pl nm ty u < 768 by omega)
        cases hr2 : rb (R 4) (256 * xx + pl nm ty u) with
        | false =>
          rw [if_neg (show ¬ false = true by decide), if_pos rfl, if_pos (hz.mpr hr2)]
          exact ⟨0, rfl, rfl⟩
        | true =>
          rw [if_pos rfl, if_neg n10, if_neg (fun z => by rw [hz.mp z] at hr2; cases hr2)]
          exact ⟨1, rfl, rfl⟩
      · rw [pif_neg hi, if_pos rfl, if_pos rfl]
        exact ⟨0, rfl, rfl⟩
  · rw [s_recordsOfN hx, zb1_some, zbo_none, if_neg hx, if_pos rfl]
    exact ⟨0, rfl, rfl⟩
end ZSIM4
