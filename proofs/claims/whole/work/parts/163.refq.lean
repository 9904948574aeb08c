/-! the reference: a change, all changes -/
theorem rb_prf (g : Nat → Int32) (fm nm ty a b q : Nat) : (rb (prf g fm nm ty a b) q = true) ↔ (rb g q = true ∧ ¬ (a ≤ q ∧ q < b ∧ goesP fm nm ty q)) := by
  by_cases h : a ≤ q ∧ q < b
  · have e : prf g fm nm ty a b q = pif (rb g q = true ∧ ¬ goesP fm nm ty q) 1 0 := if_pos h
    by_cases h1 : rb g q = true ∧ ¬ goesP fm nm ty q
    · have e1 : rb (prf g fm nm ty a b) q = true := by
        unfold rb
        rw [e, pif_pos h1]
        decide
      exact ⟨fun _ => ⟨h1.1, fun z => h1.2 z.2.2⟩, fun _ => e1⟩
    · have e1 : rb (prf g fm nm ty a b) q = false := by
        unfold rb
        rw [e, pif_neg h1]
        decide
      rw [e1]
      constructor
      · intro z
        cases z
      · intro z
        exact absurd ⟨z.1, fun y => z.2 ⟨h.1, h.2, y⟩⟩ h1
  · have e : prf g fm nm ty a b q = g q := if_neg h
    have e1 : rb (prf g fm nm ty a b) q = rb g q := by
      unfold rb
      rw [e]
    rw [e1]
    exact ⟨fun z => ⟨z, fun y => h ⟨y.1, y.2.1⟩⟩, fun z => z.1⟩
theorem prf_b01 {g : Nat → Int32} {n : Nat} (h : b01 g n) (fm nm ty a b : Nat) : b01 (prf g fm nm ty a b) n := by
  intro j hj
  unfold prf
  split
  · by_cases h1 : rb g j = true ∧ ¬ goesP fm nm ty j
    · exact Or.inr (pif_pos h1 _ _)
    · exact Or.inl (pif_neg h1 _ _)
  · exact h j hj
theorem chg_eq {s t : Nat → Bool} (h : sEq s t) {d : zD} (hd : dok 4 d) : sEq (chg s d.1 d.2.1 d.2.2.1 d.2.2.2) (chg t d.1 d.2.1 d.2.2.1 d.2.2.2) := by
  obtain ⟨a0, a1, a2, a3, a4⟩ := hd
  intro q hq
  have c1 := h.cnt (o := 32 * d.2.1 + 8) (n := 8) (by omega)
  have c2 := h.cnt (o := 32 * d.2.1) (n := 32) (by omega)
  have c3 := h.cnt (o := 16) (n := 8) (by omega)
  have hs := h q hq
  unfold chg sAdd sClear sWipe sRem
  rw [c1, c2, c3]
  unfold sPut sDel sClr
  repeat' split
  all_goals simp only [hs]
theorem chgs_eq {c : Nat} {D : Nat → zD} (hD : ∀ i, i < c → dok 4 (D i)) : ∀ (m i : Nat), i + m ≤ c → ∀ {s t : Nat → Bool}, sEq s t → sEq (chgs D i m s) (chgs D i m t)
  | 0, _, _, _, _, h => h
  | m + 1, i, hi, _, _, h => chgs_eq hD m (i + 1) (by omega) (chg_eq h (hD i (by omega)))
section ZREFQ
variable {B : Nat} {Y : zh_T} {R : Nat → Nat → Int32} {N : Nat}
theorem k_tail {fm p : Nat} (hfm : fm < 4) (hp : p < 256) (hb : b01 (R 16) 256) (hN : 300 < N) :
    (if ni p < ni 16 then (if ni fm = 3 then zb1 (zgr (zR B Y R) B 9 23) fun a197 => zb1 (zsz (zR B Y R) a197 (ni p) 0) fun X198 => some ((), X198) else some ((), zR B Y R))
      else if (ni 16 + 8) ≤ ni p then (if ni fm = 3 then zb1 (zgr (zR B Y R) B 9 23) fun a203 => zb1 (zsz (zR B Y R) a203 (ni p) 0) fun X204 => some ((), X204) else some ((), zR B Y R))
      else zb1 (zck (zR B Y R) B 9) fun _ => zb1 (f_ZoneNodesModel_works N (zR B Y R) B (ni 16) (ni 16 + 8)) fun v208 => if v208 = 1 then (if ni fm = 3 then some ((), zR B Y R) else some ((), zR B Y R)) else (if ni fm = 3 then zb1 (zgr (zR B Y R) B 9 23) fun a212 => zb1 (zsz (zR B Y R) a212 (ni p) 0) fun X213 => some ((), X213) else some ((), zR B Y R)))
      = some ((), zR B Y (if fm = 3 ∧ ¬ (16 ≤ p ∧ p < 24 ∧ cnt (rb (R 16)) 16 8 = 1) then zu R 16 (upd (R 16) p 0) else R)) := by
  have c3 : (ni fm = 3) ↔ fm = 3 := ni_inj (a := fm) (by omega) (b := 3) (by decide)
  have cl : (ni p < ni 16) ↔ p < 16 := ni_lt (by omega) (by decide)
  have cg : (ni 16 + 8 ≤ ni p) ↔ 24 ≤ p := by rw [show (8 : Int32) = ni 8 from rfl, ni_add, ni_le (by decide) (by omega)]
  have w : f_ZoneNodesModel_works N (zR B Y R) B (ni 16) (ni 16 + 8) = some (ni (cnt (rb (R 16)) 16 8)) := by
    rw [show (8 : Int32) = ni 8 from rfl, ni_add, k_works (by decide) (by decide) hb hN]
  have l := cnt_le (rb (R 16)) 8 16
  have c1 : (ni (cnt (rb (R 16)) 16 8) = 1) ↔ cnt (rb (R 16)) 16 8 = 1 := ni_inj (b := 1) (by omega) (by decide)
  simp only [rr23, zb1_some, rs16 (v := 0) hp (Or.inl rfl), rck, w, c3, cl, cg, c1, ite_self]
  by_cases f3 : fm = 3
  · by_cases a1 : p < 16
    · have h1 : ¬ (16 ≤ p ∧ p < 24 ∧ cnt (rb (R 16)) 16 8 = 1) := by omega
      simp [f3, a1, h1]
    · by_cases a2 : 24 ≤ p
      · have h1 : ¬ (16 ≤ p ∧ p < 24 ∧ cnt (rb (R 16)) 16 8 = 1) := by omega
        simp [f3, a1, a2, h1]
      · by_cases a3 : cnt (rb (R 16)) 16 8 = 1
        · have h1 : 16 ≤ p ∧ p < 24 ∧ cnt (rb (R 16)) 16 8 = 1 := by omega
          simp [f3, a1, a2, a3, h1]
        · have h1 : ¬ (16 ≤ p ∧ p < 24 ∧ cnt (rb (R 16)) 16 8 = 1) := by omega
          simp [f3, a1, a2, a3]
  · simp [f3]
theorem k_perform {a : Nat} {d : zD} (ha : a < 8) (hr : rdr R a d) (hd : dok 4 d) (hb : b01 (R 16) 256) (hN : 300 < N) : ∃ g, f_ZoneNodesModel_perform N (zR B Y R) B (ni a) = some ((), zR B Y (zu R 16 g)) ∧ isRc (R 16) g (chg (rb (R 16)) d.1 d.2.1 d.2.2.1 d.2.2.2) := by
  obtain ⟨a0, a1, a2, a3, a4⟩ := hd
  obtain ⟨f, hf⟩ : ∃ f, N = f + 1 := ⟨N - 1, by omega⟩
  have hp0 : ∀ X : zh_T, f_ZoneNodesModel_place N X 0 3 0 = some (ni 16) := fun X => by
    have h := k_place (N := N) (X := X) (a := 0) (t := 3) (v := 0) (by decide)
    exact h
  have hpl : pl d.2.1 d.2.2.1 d.2.2.2 < 256 := by unfold pl; omega
  have h32 : (32 : Int32) * ni d.2.1 = ni (32 * d.2.1) := by rw [show (32 : Int32) = ni 32 from rfl, ni_mul]
  have c0 : (ni d.1 = 0) ↔ d.1 = 0 := ni_inj (a := d.1) (by omega) (b := 0) (by decide)
  have pno : ∀ (R' : Nat → Nat → Int32) (w4 w5 w6 : Int32), (d.1 = 0 ∨ d.1 = 3) → L_ZoneNodesModel_perform_85 N B (ni d.1) (ni d.2.1) w4 w5 w6 N (zR B Y R') (ni (32 * d.2.1)) = some ((), zR B Y R') := by
    intro R' w4 w5 w6 h
    have e := k_perf_no (N := N) (B := B) (Y := Y) (R := R') (f := f) h a1 w4 w5 w6
    rw [← hf] at e
    exact e
  unfold f_ZoneNodesModel_perform
  rw [rr16, zb1_some, k_d0 ha hr, zb1_some, zb1_some, k_d1 ha hr, zb1_some, zb1_some, k_d2 ha hr, zb1_some, zb1_some, k_d3 ha hr, zb1_some, k_place a2, zb1_some, hp0, zb1_some, h32]
  by_cases f0 : d.1 = 0
  · obtain ⟨g, q1, q2, q3⟩ := k_add (N := N) (B := B) (Y := Y) a1 a2 a3 a4 hb hN
    rw [if_pos (c0.mpr f0), zb1_some, k_d3 ha hr, zb1_some, rck, zb1_some, q1, zb2_some, pno _ _ _ _ (Or.inl f0), zb2_some]
    have ht := k_tail (B := B) (Y := Y) (R := zu R 16 g) a0 hpl (by rw [zu_same]; exact q2) hN
    rw [if_neg (show ¬ (d.1 = 3 ∧ ¬ (16 ≤ pl d.2.1 d.2.2.1 d.2.2.2 ∧ pl d.2.1 d.2.2.1 d.2.2.2 < 24 ∧ cnt (rb (zu R 16 g 16)) 16 8 = 1)) from fun q => by omega)] at ht
    refine ⟨g, ht, q2, ?_⟩
    unfold chg
    rw [if_pos f0]
    exact q3
  · rw [if_neg (fun q => f0 (c0.mp q))]
    by_cases f3 : d.1 = 3
    · rw [pno _ _ _ _ (Or.inr f3), zb2_some]
      have ht := k_tail (B := B) (Y := Y) (R := R) a0 hpl hb hN
      have hchg : chg (rb (R 16)) d.1 d.2.1 d.2.2.1 d.2.2.2 = sRem (rb (R 16)) d.2.1 d.2.2.1 d.2.2.2 := by
        unfold chg
        rw [if_neg f0, if_neg (show ¬ d.1 = 1 by omega), if_neg (show ¬ d.1 = 2 by omega)]
      rw [hchg]
      unfold sRem
      by_cases ho : d.2.1 = 0 ∧ d.2.2.1 = 3 ∧ cnt (rb (R 16)) 16 8 = 1
      · have h1 : ¬ (d.1 = 3 ∧ ¬ (16 ≤ pl d.2.1 d.2.2.1 d.2.2.2 ∧ pl d.2.1 d.2.2.1 d.2.2.2 < 24 ∧ cnt (rb (R 16)) 16 8 = 1)) := by
          unfold pl
          omega
        rw [if_neg h1] at ht
        rw [if_pos ho]
        exact ⟨R 16, by rw [zu_id]; exact ht, hb, fun q _ => rfl⟩
      · have h1 : d.1 = 3 ∧ ¬ (16 ≤ pl d.2.1 d.2.2.1 d.2.2.2 ∧ pl d.2.1 d.2.2.1 d.2.2.2 < 24 ∧ cnt (rb (R 16)) 16 8 = 1) := by
          refine ⟨f3, ?_⟩
          unfold pl
          omega
        rw [if_pos h1] at ht
        rw [if_neg ho]
        exact ⟨_, ht, b01_upd hb (Or.inl rfl), fun q _ => rb_upd0 _ _ _⟩
    · have f12 : d.1 = 1 ∨ d.1 = 2 := by omega
      have hl := k_perf_L (N := N) (B := B) (Y := Y) f12 a1 a2 a3 (ni (pl d.2.1 d.2.2.1 d.2.2.2)) 32 (32 * d.2.1) N R hb (Nat.le_refl _) (by omega) (by omega)
      rw [hl, zb2_some]
      have hpb := prf_b01 hb d.1 d.2.1 d.2.2.1 (32 * d.2.1) (32 * d.2.1 + 32)
      have ht := k_tail (B := B) (Y := Y) (R := zu R 16 (prf (R 16) d.1 d.2.1 d.2.2.1 (32 * d.2.1) (32 * d.2.1 + 32))) a0 hpl (by rw [zu_same]; exact hpb) hN
      rw [if_neg (show ¬ (d.1 = 3 ∧ ¬ (16 ≤ pl d.2.1 d.2.2.1 d.2.2.2 ∧ pl d.2.1 d.2.2.1 d.2.2.2 < 24 ∧ cnt (rb (zu R 16 (prf (R 16) d.1 d.2.1 d.2.2.1 (32 * d.2.1) (32 * d.2.1 + 32)) 16)) 16 8 = 1)) from fun q => f3 q.1)] at ht
      refine ⟨_, ht, hpb, fun q hq => ?_⟩
      rw [Bool.eq_iff_iff, rb_prf]
      unfold chg goesP
      rw [if_neg f0]
      rcases f12 with f1 | f2
      · rw [if_pos f1]
        unfold sClear
        by_cases h9 : d.2.1 = 0 ∧ d.2.2.1 = 3
        · rw [if_pos h9]
          constructor
          · exact fun z => z.1
          · intro z
            refine ⟨z, ?_⟩
            omega
        · rw [if_neg h9]
          unfold sClr
          rw [Bool.and_eq_true, Bool.not_eq_true', decide_eq_false_iff_not]
          constructor
          · rintro ⟨z1, z2⟩
            refine ⟨z1, ?_⟩
            omega
          · rintro ⟨z1, z2⟩
            refine ⟨z1, ?_⟩
            omega
      · rw [if_neg (show ¬ d.1 = 1 by omega), if_pos f2]
        unfold sWipe
        rw [Bool.and_eq_true, Bool.not_eq_true', Bool.and_eq_false_iff, Bool.not_eq_false', decide_eq_false_iff_not, decide_eq_true_eq]
        constructor
        · rintro ⟨z1, z2⟩
          refine ⟨z1, ?_⟩
          omega
        · rintro ⟨z1, z2⟩
          refine ⟨z1, ?_⟩
          omega
theorem k_chgs_L {c : Nat} {D : Nat → zD} (hc4 : c ≤ 4) (w6 : Int32) (hN : 300 < N) : ∀ (m i f : Nat) (R : Nat → Nat → Int32), (∀ i, i < c → rdr R (4 + i) (D i) ∧ dok 4 (D i)) → b01 (R 16) 256 → i + m = c → m < f →
    ∃ g, L_ZoneNodesModel_update_63 N B 0 (ni c) w6 f (zR B Y R) (ni i) = some ((), zR B Y (zu R 16 g)) ∧ isRc (R 16) g (chgs D i m (rb (R 16))) := by
  intro m
  induction m with
  | zero =>
    intro i f R hD hb h3 h4
    obtain ⟨g, rfl⟩ : ∃ g, f = g + 1 := ⟨f - 1, by omega⟩
    refine ⟨R 16, ?_, hb, fun _ _ => rfl⟩
    rw [L_ZoneNodesModel_update_63, if_pos ((zle (i := i) (m := c) (by omega) (by omega)).mpr (by omega)), zu_id]
  | succ m ih =>
    intro i f R hD hb h3 h4
    obtain ⟨g, rfl⟩ : ∃ g, f = g + 1 := ⟨f - 1, by omega⟩
    obtain ⟨hr, hd⟩ := hD i (by omega)
    obtain ⟨g1, q1, q2, q3⟩ := k_perform (N := N) (B := B) (Y := Y) (by omega) hr hd hb hN
    obtain ⟨g2, p1, p2, p4⟩ := ih (i + 1) g (zu R 16 g1) hD (by rw [zu_same]; exact q2) (by omega) (by omega)
    rw [zu_zu] at p1
    rw [zu_same] at p4
    refine ⟨g2, ?_, p2, fun q hq => ?_⟩
    · rw [L_ZoneNodesModel_update_63, if_neg (fun q => absurd ((zle (i := i) (m := c) (by omega) (by omega)).mp q) (by omega)), if_pos rfl, rck, zb1_some, show (4 : Int32) = ni 4 from rfl, ni_add, q1, zb2_some, ni_succ, p1]
    · exact (p4 q hq).trans (chgs_eq (c := c) (fun j hj => (hD j hj).2) m (i + 1) (by omega) q3 q hq)
end ZREFQ
