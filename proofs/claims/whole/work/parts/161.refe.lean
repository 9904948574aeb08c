/-! the reference: EXACT needs, and why an update is refused -/
section ZREFE
variable {B : Nat} {Y : zh_T} {R : Nat → Nat → Int32} {N : Nat}
theorem k_exact_in {c : Nat} {D : Nat → zD} (hc : R 0 14 = ni c) (hc4 : c ≤ 4) (hD : ∀ i, i < c → rdr R i (D i) ∧ dok 5 (D i)) {nm ty v : Nat} (h1 : nm < 8) (h3 : ty ≤ 4) (h4 : v < 8) (w4 : Int32) : ∀ (m i f : Nat) (sd : Int32), (sd = 0 ∨ sd = 1) → i + m = c → m < f →
    L_ZoneNodesModel_exact_41 N (zR B Y R) B (ni nm) (ni ty) w4 (ni v) f sd (ni i) = some (pif (sd = 1 ∨ ∃ j, i ≤ j ∧ j < c ∧ (D j).1 = 3 ∧ (D j).2.1 = nm ∧ (D j).2.2.1 = ty ∧ (D j).2.2.2 = v) 1 0) := by
  intro m
  induction m with
  | zero =>
    intro i f sd hs h5 h6
    obtain ⟨g, rfl⟩ : ∃ g, f = g + 1 := ⟨f - 1, by omega⟩
    rw [L_ZoneNodesModel_exact_41, rg14, zb1_some, hc, if_pos ((zle (i := i) (m := c) (by omega) (by omega)).mpr (by omega))]
    rcases hs with rfl | rfl
    · rw [pif_neg]
      rintro (q | ⟨j, j1, j2, -⟩)
      · exact absurd q (by decide)
      · omega
    · rw [pif_pos (Or.inl rfl)]
  | succ m ih =>
    intro i f sd hs h5 h6
    obtain ⟨g, rfl⟩ : ∃ g, f = g + 1 := ⟨f - 1, by omega⟩
    obtain ⟨hr, a0, a1, a2, a3, a4⟩ := hD i (by omega)
    have hi : i < 8 := by omega
    have i1 : L_ZoneNodesModel_exact_41 N (zR B Y R) B (ni nm) (ni ty) w4 (ni v) g 1 (ni (i + 1)) = some 1 := by
      rw [ih (i + 1) g 1 (Or.inr rfl) (by omega) (by omega), pif_pos (Or.inl rfl)]
    have i0 : (¬ ((D i).1 = 3 ∧ (D i).2.1 = nm ∧ (D i).2.2.1 = ty ∧ (D i).2.2.2 = v)) → L_ZoneNodesModel_exact_41 N (zR B Y R) B (ni nm) (ni ty) w4 (ni v) g 0 (ni (i + 1)) = some (pif ((0 : Int32) = 1 ∨ ∃ j, i ≤ j ∧ j < c ∧ (D j).1 = 3 ∧ (D j).2.1 = nm ∧ (D j).2.2.1 = ty ∧ (D j).2.2.2 = v) 1 0) := by
      intro hn
      rw [ih (i + 1) g 0 (Or.inl rfl) (by omega) (by omega)]
      congr 1
      apply pif_congr
      constructor
      · rintro (q | ⟨j, j1, j2⟩)
        · exact Or.inl q
        · exact Or.inr ⟨j, by omega, j2⟩
      · rintro (q | ⟨j, j1, j2, j3⟩)
        · exact Or.inl q
        · by_cases ej : j = i
          · subst ej
            exact absurd j3 hn
          · exact Or.inr ⟨j, by omega, j2, j3⟩
    rw [L_ZoneNodesModel_exact_41, rg14, zb1_some, hc, if_neg (fun q => absurd ((zle (i := i) (m := c) (by omega) (by omega)).mp q) (by omega))]
    rcases hs with rfl | rfl
    · rw [if_pos rfl]
      simp only [rr16, zb1_some, k_d0 hi hr, k_d1 hi hr, k_d2 hi hr, k_d3 hi hr, ni_succ, i1]
      have e3 : (ni (D i).1 = 3) ↔ (D i).1 = 3 := ni_inj (a := (D i).1) (by omega) (b := 3) (by decide)
      have en : (ni (D i).2.1 = ni nm) ↔ (D i).2.1 = nm := ni_inj (by omega) (by omega)
      have et : (ni (D i).2.2.1 = ni ty) ↔ (D i).2.2.1 = ty := ni_inj (by omega) (by omega)
      have ev : (ni (D i).2.2.2 = ni v) ↔ (D i).2.2.2 = v := ni_inj (by omega) (by omega)
      by_cases c3 : (D i).1 = 3
      · rw [if_pos (e3.mpr c3)]
        by_cases cn : (D i).2.1 = nm
        · rw [if_pos (en.mpr cn)]
          by_cases ct : (D i).2.2.1 = ty
          · rw [if_pos (et.mpr ct)]
            by_cases cv : (D i).2.2.2 = v
            · rw [if_pos (ev.mpr cv), pif_pos (Or.inr ⟨i, Nat.le_refl i, by omega, c3, cn, ct, cv⟩)]
            · rw [if_neg (fun q => cv (ev.mp q)), i0 (fun q => cv q.2.2.2)]
          · rw [if_neg (fun q => ct (et.mp q)), i0 (fun q => ct q.2.2.1)]
        · rw [if_neg (fun q => cn (en.mp q)), i0 (fun q => cn q.2.1)]
      · rw [if_neg (fun q => c3 (e3.mp q)), i0 (fun q => c3 q.1)]
    · rw [if_neg (by decide), ni_succ, i1, pif_pos (Or.inl rfl)]
theorem k_exact_L {c : Nat} {D : Nat → zD} (hc : R 0 14 = ni c) (hc4 : c ≤ 4) (hD : ∀ i, i < c → rdr R i (D i) ∧ dok 5 (D i)) {d : zD} (hd : dok 5 d) (hb : b01 (R 4) 768) (hN : 100 < N) : ∀ (m v f : Nat) (gd : Int32), (gd = 0 ∨ gd = 1) → v + m = 8 → m < f →
    L_ZoneNodesModel_exact_28 N (zR B Y R) B (ni d.2.1) (ni d.2.2.1) f gd (ni v) = some (pif (gd = 1 ∧ ∀ u, v ≤ u → u < 8 → (rb (R 4) (pl d.2.1 d.2.2.1 u) = true ↔ tells D c d u)) 1 0) := by
  obtain ⟨a0, a1, a2, a3, a4⟩ := hd
  intro m
  induction m with
  | zero =>
    intro v f gd hs h5 h6
    obtain ⟨g, rfl⟩ : ∃ g, f = g + 1 := ⟨f - 1, by omega⟩
    rw [L_ZoneNodesModel_exact_28, if_pos (show (8 : Int32) ≤ ni v from (ni_le (a := 8) (b := v) (by decide) (by omega)).mpr (by omega))]
    rcases hs with rfl | rfl
    · rw [pif_neg (fun q => absurd q.1 (by decide))]
    · rw [pif_pos ⟨rfl, fun u u1 u2 => by omega⟩]
  | succ m ih =>
    intro v f gd hs h5 h6
    obtain ⟨g, rfl⟩ : ∃ g, f = g + 1 := ⟨f - 1, by omega⟩
    have hv : v < 8 := by omega
    have hin := k_exact_in (N := N) (B := B) (Y := Y) hc hc4 hD a1 a3 hv gd c 0 N 0 (Or.inl rfl) (by omega) (by omega)
    have hin' : L_ZoneNodesModel_exact_41 N (zR B Y R) B (ni d.2.1) (ni d.2.2.1) gd (ni v) N 0 0 = some (pif (tells D c d v) 1 0) := by
      refine hin.trans ?_
      congr 1
      apply pif_congr
      constructor
      · rintro (q | ⟨j, -, j2, j3⟩)
        · exact absurd q (by decide)
        · exact ⟨j, j2, j3⟩
      · rintro ⟨j, j2, j3⟩
        exact Or.inr ⟨j, Nat.zero_le j, j2, j3⟩
    have hpl : pl d.2.1 d.2.2.1 v < 768 := by unfold pl; omega
    rw [L_ZoneNodesModel_exact_28, if_neg (show ¬ (8 : Int32) ≤ ni v from fun q => absurd ((ni_le (a := 8) (b := v) (by decide) (by omega)).mp q) (by omega)), hin', zb1_some, ni_succ, ih (v + 1) g 0 (Or.inl rfl) (by omega) (by omega), ih (v + 1) g 1 (Or.inr rfl) (by omega) (by omega), pif_neg (fun q => absurd q.1 (by decide))]
    rcases hs with rfl | rfl
    · rw [if_pos rfl, pif_neg (fun q => absurd q.1 (by decide))]
    · rw [if_neg (by decide), rr7, zb1_some, k_place a2, zb1_some, ra4 hpl, zb1_some]
      have hval : (pif (tells D c d v) (1 : Int32) 0 = R 4 (pl d.2.1 d.2.2.1 v)) ↔ (rb (R 4) (pl d.2.1 d.2.2.1 v) = true ↔ tells D c d v) := by
        unfold rb
        by_cases ht : tells D c d v
        · rw [pif_pos ht]
          simp [ht, eq_comm]
        · rw [pif_neg ht]
          rcases hb _ hpl with h0 | h0
          · simp [ht, h0]
          · simp [ht, h0]
      by_cases hq : rb (R 4) (pl d.2.1 d.2.2.1 v) = true ↔ tells D c d v
      · rw [if_pos (hval.mpr hq)]
        congr 1
        apply pif_congr
        constructor
        · rintro ⟨-, q⟩
          refine ⟨rfl, fun u u1 u2 => ?_⟩
          by_cases eu : u = v
          · subst eu
            exact hq
          · exact q u (by omega) u2
        · rintro ⟨-, q⟩
          exact ⟨rfl, fun u u1 u2 => q u (by omega) u2⟩
      · rw [if_neg (fun z => hq (hval.mp z)), pif_neg (fun z => hq (z.2 v (Nat.le_refl v) hv))]
theorem k_exact {c i : Nat} {D : Nat → zD} (hc : R 0 14 = ni c) (hc4 : c ≤ 4) (hD : ∀ i, i < c → rdr R i (D i) ∧ dok 5 (D i)) (hi : i < c) (hb : b01 (R 4) 768) (hN : 100 < N) : f_ZoneNodesModel_exact N (zR B Y R) B (ni i) = some (pif (exactN (rb (R 4)) D c (D i)) 1 0) := by
  obtain ⟨hr, hd⟩ := hD i hi
  unfold f_ZoneNodesModel_exact
  have e := k_exact_L (N := N) (B := B) (Y := Y) hc hc4 hD hd hb hN 8 0 N 1 (Or.inr rfl) (by omega) (by omega)
  have e' : L_ZoneNodesModel_exact_28 N (zR B Y R) B (ni (D i).2.1) (ni (D i).2.2.1) N 1 0 = some (pif (exactN (rb (R 4)) D c (D i)) 1 0) := by
    refine e.trans ?_
    congr 1
    apply pif_congr
    constructor
    · rintro ⟨-, q⟩ u hu
      exact q u (Nat.zero_le u) hu
    · intro q
      exact ⟨rfl, fun u _ hu => q u hu⟩
  have h01 : pif (exactN (rb (R 4)) D c (D i)) (1 : Int32) 0 = 0 ∨ pif (exactN (rb (R 4)) D c (D i)) (1 : Int32) 0 = 1 := by
    by_cases q : exactN (rb (R 4)) D c (D i)
    · exact Or.inr (pif_pos q _ _)
    · exact Or.inl (pif_neg q _ _)
  simp only [rr16, zb1_some, k_d1 (show i < 8 by omega) hr, k_d2 (show i < 8 by omega) hr, e', zbz_01 h01]
theorem k_ref_L1 {c : Nat} {D : Nat → zD} (hc : R 0 14 = ni c) (hc4 : c ≤ 4) (hD : ∀ i, i < c → rdr R i (D i) ∧ dok 5 (D i)) (hb : b01 (R 4) 768) (hN : 300 < N) : ∀ (m i f : Nat), i + m = c → m < f →
    L_ZoneNodesModel_refusal_68 N (zR B Y R) B f (ni i) = some (if firstN (rb (R 4)) D i m = 0 then .inr () else .inl (ni (firstN (rb (R 4)) D i m))) := by
  intro m
  induction m with
  | zero =>
    intro i f h3 h4
    obtain ⟨g, rfl⟩ : ∃ g, f = g + 1 := ⟨f - 1, by omega⟩
    rw [L_ZoneNodesModel_refusal_68, rg14, zb1_some, hc, if_pos ((zle (i := i) (m := c) (by omega) (by omega)).mpr (by omega))]
    rfl
  | succ m ih =>
    intro i f h3 h4
    obtain ⟨g, rfl⟩ : ∃ g, f = g + 1 := ⟨f - 1, by omega⟩
    obtain ⟨hr, hd⟩ := hD i (by omega)
    rw [L_ZoneNodesModel_refusal_68, rg14, zb1_some, hc, if_neg (fun q => absurd ((zle (i := i) (m := c) (by omega) (by omega)).mp q) (by omega)), rr16, zb1_some, k_d0 (by omega) hr, zb1_some, rck, zb1_some, k_meets (by omega) hr hd hb hN, zb1_some, ni_succ, ih (i + 1) g (by omega) (by omega), firstN]
    by_cases h0 : ansN (rb (R 4)) (D i) = 0
    · rw [if_pos h0, if_neg (by decide), if_pos h0]
    · rw [if_neg h0, if_pos rfl, if_neg h0, if_neg h0]
      have e0 : (ni (D i).1 = 0) ↔ (D i).1 = 0 := ni_inj (a := (D i).1) (by have := hd.1; omega) (b := 0) (by decide)
      have e1 : (ni (D i).1 = 1) ↔ (D i).1 = 1 := ni_inj (a := (D i).1) (by have := hd.1; omega) (b := 1) (by decide)
      have e2 : (ni (D i).1 = 2) ↔ (D i).1 = 2 := ni_inj (a := (D i).1) (by have := hd.1; omega) (b := 2) (by decide)
      have hd0 := hd.1
      have hc5 : (D i).1 = 0 ∨ (D i).1 = 1 ∨ (D i).1 = 2 ∨ (D i).1 = 3 ∨ (D i).1 = 4 := by omega
      simp only [e0, e1, e2]
      unfold ansN at h0 ⊢
      rcases hc5 with q | q | q | q | q <;> simp [q] at h0 ⊢ <;> simp [h0] <;> rfl
theorem k_ref_L2 {c : Nat} {D : Nat → zD} (hc : R 0 14 = ni c) (hc4 : c ≤ 4) (hD : ∀ i, i < c → rdr R i (D i) ∧ dok 5 (D i)) (hb : b01 (R 4) 768) (hN : 100 < N) : ∀ (m i f : Nat), i + m = c → m < f →
    L_ZoneNodesModel_refusal_140 N (zR B Y R) B f (ni i) = some (pif (∃ j, i ≤ j ∧ j < c ∧ (D j).1 = 3 ∧ ¬ exactN (rb (R 4)) D c (D j)) (.inl 8) (.inr ())) := by
  intro m
  induction m with
  | zero =>
    intro i f h3 h4
    obtain ⟨g, rfl⟩ : ∃ g, f = g + 1 := ⟨f - 1, by omega⟩
    rw [L_ZoneNodesModel_refusal_140, rg14, zb1_some, hc, if_pos ((zle (i := i) (m := c) (by omega) (by omega)).mpr (by omega)), pif_neg]
    rintro ⟨j, j1, j2, -⟩
    omega
  | succ m ih =>
    intro i f h3 h4
    obtain ⟨g, rfl⟩ : ∃ g, f = g + 1 := ⟨f - 1, by omega⟩
    obtain ⟨hr, hd⟩ := hD i (by omega)
    have e3 : (ni (D i).1 = 3) ↔ (D i).1 = 3 := ni_inj (a := (D i).1) (by have := hd.1; omega) (b := 3) (by decide)
    rw [L_ZoneNodesModel_refusal_140, rg14, zb1_some, hc, if_neg (fun q => absurd ((zle (i := i) (m := c) (by omega) (by omega)).mp q) (by omega)), rr16, zb1_some, k_d0 (by omega) hr, zb1_some, rck, zb1_some, k_exact hc hc4 hD (show i < c by omega) hb hN, zb1_some, ni_succ, ih (i + 1) g (by omega) (by omega)]
    by_cases f3 : (D i).1 = 3
    · rw [if_pos (e3.mpr f3)]
      by_cases hx : exactN (rb (R 4)) D c (D i)
      · rw [pif_pos hx, if_neg (by decide)]
        congr 1
        apply pif_congr
        constructor
        · rintro ⟨j, j1, j2, j3, j4⟩
          exact ⟨j, by omega, j2, j3, j4⟩
        · rintro ⟨j, j1, j2, j3, j4⟩
          refine ⟨j, ?_, j2, j3, j4⟩
          by_cases ej : j = i
          · subst ej
            exact absurd hx j4
          · omega
      · rw [pif_neg hx, if_pos rfl, pif_pos ⟨i, Nat.le_refl i, by omega, f3, hx⟩]
    · rw [if_neg (fun q => f3 (e3.mp q))]
      congr 1
      apply pif_congr
      constructor
      · rintro ⟨j, j1, j2, j3, j4⟩
        exact ⟨j, by omega, j2, j3, j4⟩
      · rintro ⟨j, j1, j2, j3, j4⟩
        refine ⟨j, ?_, j2, j3, j4⟩
        by_cases ej : j = i
        · subst ej
          exact absurd j3 f3
        · omega
theorem k_unmet {c : Nat} {D : Nat → zD} (hc : R 0 14 = ni c) (hc4 : c ≤ 4) (hD : ∀ i, i < c → rdr R i (D i) ∧ dok 5 (D i)) (hb : b01 (R 4) 768) (hN : 300 < N) : ∃ r, (zbs (L_ZoneNodesModel_refusal_68 N (zR B Y R) B N 0) (fun r0 => some r0) fun _ => zbs (L_ZoneNodesModel_refusal_140 N (zR B Y R) B N 0) (fun r0 => some r0) fun _ => some (0 : Int32)) = some r ∧ unmetN (rb (R 4)) D c r := by
  rw [show (0 : Int32) = ni 0 from rfl, k_ref_L1 hc hc4 hD hb hN c 0 N (by omega) (by omega)]
  by_cases h0 : firstN (rb (R 4)) D 0 c = 0
  · rw [if_pos h0, zbs_inr, k_ref_L2 hc hc4 hD hb (by omega) c 0 N (by omega) (by omega)]
    by_cases h1 : ∃ j, 0 ≤ j ∧ j < c ∧ (D j).1 = 3 ∧ ¬ exactN (rb (R 4)) D c (D j)
    · rw [pif_pos h1, zbs_inl]
      obtain ⟨j, -, j2⟩ := h1
      exact ⟨8, rfl, Or.inr (Or.inl ⟨h0, ⟨j, j2⟩, rfl⟩)⟩
    · rw [pif_neg h1, zbs_inr]
      exact ⟨_, rfl, Or.inr (Or.inr ⟨h0, fun ⟨j, j2⟩ => h1 ⟨j, Nat.zero_le j, j2⟩, rfl⟩)⟩
  · rw [if_neg h0, zbs_inl]
    exact ⟨_, rfl, Or.inl ⟨h0, rfl⟩⟩
end ZREFE
