/-! drop -/
theorem filter_erase {α : Type} {p : α → Bool} : ∀ (l : List α) (i : Nat) (x : α), l[i]? = some x → p x = false → (l.eraseIdx i).filter p = l.filter p
  | [], _, _, h, _ => by simp at h
  | y :: l, 0, x, h, hp => by
    simp at h
    subst h
    rw [List.filter_cons_of_neg (by rw [hp]; decide)]
    rfl
  | y :: l, i + 1, x, h, hp => by
    have ih := filter_erase l i x (by simpa using h) hp
    show (y :: l.eraseIdx i).filter p = (y :: l).filter p
    cases hy : p y with
    | true => rw [List.filter_cons_of_pos hy, List.filter_cons_of_pos hy, ih]
    | false => rw [List.filter_cons_of_neg (by rw [hy]; decide), List.filter_cons_of_neg (by rw [hy]; decide), ih]
section ZSIM7
variable {A B : Nat} {X Y : zh_T} {M F I J G K : Nat → Nat → Int32} {w e : Nat → Nat} {R : Nat → Nat → Int32} {N n c jc pd : Nat} {s0 : Int32} {V : Nat → Nat → Bool}
theorem o_drop (h : Sim s0 V n c jc pd M F I J G K w e R) (i : Int32) (hN : 300 < N) : ∃ r c' M' w' R', f_ZoneNodes_drop N (zC A X M F I J G K w e) A i = some (r, zC A X M' F I J G K w' e) ∧ f_ZoneNodesModel_drop N (zR B Y R) B i = some (r, zR B Y R') ∧ Sim s0 V n c' jc pd M' F I J G K w' e R' := by
  have hM := sim_m h
  obtain ⟨m1, m2, m3, m4, -⟩ := sim_m h
  unfold f_ZoneNodes_drop f_ZoneNodesModel_drop
  rw [cr0_3, zb1_some, ck6, zb1_some, s_at m2 m1, zb1_some, rck, zb1_some, k_isMessage m3 (by omega), zb1_some]
  by_cases hi : 0 ≤ i ∧ i.toNatClampNeg < c
  · rw [if_pos hi, if_pos hi, zbo_some, zb1_some, if_neg n10]
    obtain ⟨h1, h2⟩ := hi
    have hn := ni_of h1
    generalize i.toNatClampNeg = k at hn h2
    subst hn
    have hx := m4.1 k (by omega)
    have hrel := sim_at h h2
    have hon := mrel_onS hrel
    have e17 : (rmsg R k).1 = R 17 k := rfl
    rw [m_ck hx, zb1_some, s_isOnStream hx, zb1_some, hon, e17, rr25, zb1_some, ra17 (show k < 96 by omega), zb1_some]
    by_cases h4 : R 17 k < 4
    · have hb := sim_b h
      have hfr := Rrem_fr (R := R) (c := c) (i := k) (by omega) hb.2.2.2.2.2.1 hb.2.2.2.2.2.2
      have hoff : onS (F (w k), I (w k)) = false := by rw [hon, e17, decide_eq_true h4]; rfl
      rw [decide_eq_true h4, if_neg (show ¬ (!true) = true by decide), if_pos rfl, if_pos h4, ck6, zb1_some, s_takeOut m2 m1 m4 h2 (by omega), zb2_some, zb1_some, k_remove m3 (by omega) h2 hb.2.2.2.2.2.1 hb.2.2.2.2.2.2 (by omega), zb2_some]
      obtain ⟨hA, hD, ⟨b1, b2, b3, b4, b5, -, -⟩, hP, hJ, hV, hS1, hS2, -, hT1, hT2⟩ := h
      refine ⟨1, c - 1, _, _, _, rfl, rfl, hA, hD, ⟨b1, b2, b3, b4, b5, hfr.2.2.1, hfr.2.2.2⟩, hP, hJ, hV, hS1, hS2, simM_rem hM h2, ?_, ?_⟩
      · rw [mlist_rot F I w h2, filter_erase _ k _ (mlist_get F I w h2) (by unfold ofS; rw [hoff]; rfl)]
        exact hT1
      · rw [mlist_rot F I w h2, filter_erase _ k _ (mlist_get F I w h2) (by unfold ofS; rw [hoff]; rfl)]
        exact hT2
    · rw [decide_eq_false h4, if_pos (show (!false) = true by decide), if_neg n10, if_neg h4]
      exact ⟨0, c, M, w, R, rfl, rfl, h⟩
  · rw [if_neg hi, if_neg hi, zbo_none, zb1_some, if_pos rfl]
    exact ⟨0, c, M, w, R, rfl, rfl, h⟩
end ZSIM7
