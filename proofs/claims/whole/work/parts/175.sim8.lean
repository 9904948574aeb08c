/-! alter -/
theorem parts_map {g g' : Nat → zMsg} (h1 : ∀ i j, j ≠ 9 → (g' i).1 j = (g i).1 j) (h2 : ∀ i, (g' i).2 = (g i).2) (sr wh : Int32) (tgt : Nat → Bool) : ∀ (l : List Nat) (k0 : Nat) (b : Nat → Bool), partsOk sr wh tgt (l.map g) k0 b → partsOk sr wh tgt (l.map g') k0 b
  | [], _, _, h => h
  | i :: l, k0, b, h => by
    obtain ⟨ln, it, a1, a2, a3, a4, a5, a6, a7, a8⟩ := h
    refine ⟨ln, it, a1, fun j hj => ?_, ?_, ?_, ?_, ?_, ?_, ?_⟩
    · rw [h2 i]
      exact a2 j hj
    · rw [h1 i 1 (by decide)]
      exact a3
    · rw [h1 i 4 (by decide)]
      exact a4
    · rw [h1 i 5 (by decide)]
      exact a5
    · rw [h1 i 6 (by decide)]
      exact a6
    · rw [h1 i 7 (by decide)]
      exact a7
    · rw [h1 i 8 (by decide)]
      rcases a8 with ⟨c1, c2, c3⟩ | ⟨c1, c2, c3⟩
      · exact Or.inl ⟨by simpa using c1, c2, c3⟩
      · exact Or.inr ⟨by simpa using c1, c2, parts_map h1 h2 sr wh tgt l (k0 + 1) _ c3⟩
theorem simT_map {g g' : Nat → zMsg} (h1 : ∀ i j, j ≠ 9 → (g' i).1 j = (g i).1 j) (h2 : ∀ i, (g' i).2 = (g i).2) {s0 : Int32} {V : Nat → Nat → Bool} {n s : Nat} {f fr fi : Nat → Int32} {up0 up6 : Int32} {R5 : Nat → Int32} (l : List Nat) (h : SimT s0 V n s f fr fi up0 up6 R5 (l.map g)) : SimT s0 V n s f fr fi up0 up6 R5 (l.map g') := by
  rcases h with h | ⟨u1, u2, u3, u4, h⟩
  · exact Or.inl (by simpa using h)
  · refine Or.inr ⟨u1, u2, u3, u4, ?_⟩
    rcases h with ⟨m, hm, q1, q2, q3⟩ | ⟨k0, b, wh, q1, q2, q3, q4, q5, q6⟩
    · cases l with
      | nil => simp at hm
      | cons i l =>
        cases l with
        | cons j l => simp at hm
        | nil =>
          simp at hm
          subst hm
          exact Or.inl ⟨g' i, rfl, by rw [h1 i 1 (by decide)]; exact q1, by rw [h1 i 3 (by decide)]; exact q2, by rw [h1 i 4 (by decide)]; exact q3⟩
    · exact Or.inr ⟨k0, b, wh, by simpa using q1, q2, q3, q4, q5, parts_map h1 h2 _ _ _ l k0 _ q6⟩
theorem mlist_filter (F I : Nat → Nat → Int32) (w : Nat → Nat) (c : Nat) (p : zMsg → Bool) : (mlist F I w c).filter p = ((List.range c).filter (fun i => p (F (w i), I (w i)))).map (fun i => (F (w i), I (w i))) := by
  unfold mlist
  rw [List.filter_map]
  rfl
section ZSIM8
variable {A B : Nat} {X Y : zh_T} {M F I J G K : Nat → Nat → Int32} {w e : Nat → Nat} {R : Nat → Nat → Int32} {N n c jc pd : Nat} {s0 : Int32} {V : Nat → Nat → Bool}
theorem o_alter (h : Sim s0 V n c jc pd M F I J G K w e R) (i : Int32) : ∃ r F' R', f_ZoneNodes_alter N (zC A X M F I J G K w e) A i = some (r, zC A X M F' I J G K w e) ∧ f_ZoneNodesModel_alter N (zR B Y R) B i = some (r, zR B Y R') ∧ Sim s0 V n c jc pd M F' I J G K w e R' := by
  have hM := sim_m h
  obtain ⟨m1, m2, m3, m4, -⟩ := sim_m h
  unfold f_ZoneNodes_alter f_ZoneNodesModel_alter
  rw [cr0_3, zb1_some, ck6, zb1_some, s_at m2 m1, zb1_some, rck, zb1_some, k_isMessage m3 (by omega), zb1_some]
  by_cases hi : 0 ≤ i ∧ i.toNatClampNeg < c
  · rw [if_pos hi, if_pos hi, zbo_some, if_neg n10]
    obtain ⟨h1, h2⟩ := hi
    have hn := ni_of h1
    generalize i.toNatClampNeg = k at hn h2
    subst hn
    have hx := m4.1 k (by omega)
    have h96 : k < 96 := by omega
    have hrel := sim_at h h2
    have e1 : F (w k) 1 = R 17 k := hrel.1
    rw [m_gi hx (j := 1) rfl, zb1_some, e1, rr25, zb1_some, ra17 h96, zb1_some]
    by_cases h5 : R 17 k = 5
    · obtain ⟨a1, a2, a3, a4⟩ := hrel.2.2.2.2.2.2.1 h5
      have e9 : F (w k) 9 = R 22 k := a3
      rw [if_pos h5, if_pos h5, m_gi hx (j := 9) rfl, zb1_some, e9, rr30, zb1_some, ra22 h96, zb1_some]
      by_cases h0 : R 22 k = 0
      · rw [if_pos h0, if_pos h0, m_pz hx (j := 9) rfl (Or.inr rfl), zb1_some, zb1_some, rs22 h96 (Or.inr rfl), zb1_some]
        obtain ⟨hA, hD, ⟨b1, b2, b3, b4, b5, b6, b7⟩, hP, hJ, hV, hS1, hS2, -, hT1, hT2⟩ := h
        have hg : ∀ i j, j ≠ 9 → ((zu F (w k) (upd (F (w k)) 9 1)) (w i), I (w i)).1 j = (F (w i), I (w i)).1 j := by
          intro i j hj
          show zu F (w k) (upd (F (w k)) 9 1) (w i) j = F (w i) j
          by_cases ew : w i = w k
          · rw [ew, zu_same, upd_ne _ hj]
          · rw [zu_ne _ ew]
        have hof : ∀ (s : Int32) (i : Nat), ofS s (zu F (w k) (upd (F (w k)) 9 1) (w i), I (w i)) = ofS s (F (w i), I (w i)) := by
          intro s i
          have g1 := hg i 1 (by decide)
          have g2 := hg i 2 (by decide)
          unfold ofS onS
          rw [g1, g2]
        have hon : ∀ i : Nat, onS (zu F (w k) (upd (F (w k)) 9 1) (w i), I (w i)) = onS (F (w i), I (w i)) := by
          intro i
          have g1 := hg i 1 (by decide)
          unfold onS
          rw [g1]
        refine ⟨1, _, _, rfl, rfl, hA, hD, ⟨b1, b2, b3, b4, b5, b01_upd b6 (Or.inr rfl), b7⟩, hP, hJ, hV, hS1, hS2, ⟨m1, m2, m3, m4, by rw [rlist_len], ?_, ?_⟩, ?_, ?_⟩
        · intro q m r hm hr
          by_cases hq : q < c
          · rw [mlist_get _ _ _ hq] at hm
            rw [rlist_get _ hq] at hr
            cases hm
            cases hr
            obtain ⟨r1, r2, r3, r4, r5, r6, r7, r8⟩ := hM.2.2.2.2.2.1 q _ _ (mlist_get F I w hq) (rlist_get R hq)
            refine ⟨(hg q 1 (by decide)).trans r1, (hg q 2 (by decide)).trans r2, (hg q 4 (by decide)).trans r3, r4, r5, fun z => ?_, fun z => ?_, r8⟩
            · have hqk : q ≠ k := by
                intro ek
                subst ek
                have z' : R 17 q = 4 := z
                rw [h5] at z'
                exact absurd z' (by decide)
              show zu F (w k) (upd (F (w k)) 9 1) (w q) 3 = upd (R 22) k 1 q
              rw [upd_ne _ hqk]
              exact (hg q 3 (by decide)).trans (r6 z)
            · obtain ⟨s1, s2, s3, s4⟩ := r7 z
              refine ⟨(hg q 5 (by decide)).trans s1, (hg q 6 (by decide)).trans s2, ?_, (hg q 8 (by decide)).trans s4⟩
              show zu F (w k) (upd (F (w k)) 9 1) (w q) 9 = upd (R 22) k 1 q
              by_cases ek : q = k
              · subst ek
                rw [zu_same, upd_eq, upd_eq]
              · have ew : w q ≠ w k := fun z9 => ek (m4.2 q k (by omega) (by omega) z9)
                rw [zu_ne _ ew, upd_ne _ ek]
                exact s3
          · rw [mlist_out _ _ _ (by omega)] at hm
            cases hm
        · have e8 : (mlist (zu F (w k) (upd (F (w k)) 9 1)) I w c).countP (fun m => !onS m) = (mlist F I w c).countP (fun m => !onS m) := by
            rw [List.countP_eq_length_filter, List.countP_eq_length_filter, mlist_filter, mlist_filter, List.length_map, List.length_map]
            congr 2
            funext i
            rw [hon i]
          rw [e8]
          exact hM.2.2.2.2.2.2
        · rw [mlist_filter, show (fun i => ofS 1 (zu F (w k) (upd (F (w k)) 9 1) (w i), I (w i))) = (fun i => ofS 1 (F (w i), I (w i))) from funext (hof 1)]
          rw [mlist_filter] at hT1
          exact simT_map hg (fun _ => rfl) _ hT1
        · rw [mlist_filter, show (fun i => ofS 2 (zu F (w k) (upd (F (w k)) 9 1) (w i), I (w i))) = (fun i => ofS 2 (F (w i), I (w i))) from funext (hof 2)]
          rw [mlist_filter] at hT2
          exact simT_map hg (fun _ => rfl) _ hT2
      · rw [if_neg h0, if_neg h0]
        exact ⟨0, F, R, rfl, rfl, h⟩
    · rw [if_neg h5, if_neg h5]
      exact ⟨0, F, R, rfl, rfl, h⟩
  · rw [if_neg hi, if_neg hi, zbo_none, if_pos rfl]
    exact ⟨0, F, R, rfl, rfl, h⟩
end ZSIM8
