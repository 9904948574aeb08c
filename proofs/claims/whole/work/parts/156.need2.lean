/-! the class's draft held against its records -/
def chgs (D : Nat → zD) : Nat → Nat → (Nat → Bool) → (Nat → Bool)
  | _, 0, s => s
  | i, m + 1, s => chgs D (i + 1) m (chg s (D i).1 (D i).2.1 (D i).2.2.1 (D i).2.2.2)
def sameNT (d d0 : zD) : Prop := d.1 = d0.1 ∧ d.2.1 = d0.2.1 ∧ d.2.2.1 = d0.2.2.1
theorem cdd_same {d d0 : zD} (h : dok 5 d) (h0 : dok 5 d0) : (cdd d / 10 = cdd d0 / 10) ↔ sameNT d d0 := by
  obtain ⟨a0, a1, a2, a3, a4⟩ := h
  obtain ⟨b0, b1, b2, b3, b4⟩ := h0
  unfold cdd cd sameNT
  rw [show (10 : Int32) = ni 10 from rfl, ni_div (by omega) (by decide), ni_div (by omega) (by decide), ni_inj (by omega) (by omega)]
  omega
section ZNEED2
variable {A : Nat} {X : zh_T} {M F I J G K : Nat → Nat → Int32} {w e : Nat → Nat} {N : Nat}
theorem C_valuesOf {nm ty : Nat} (h1 : nm < 8) (h2 : 1 ≤ ty) (h3 : ty ≤ 4) : f_Records_valuesOf N (zC A X M F I J G K w e) (A + 170) (ni nm) (ni ty) = some (M 171 (4 * nm + ty - 1)) := by
  rw [zC, s_valuesOf rec170 h1 h2 h3, mC_fix fx170]
theorem C_answerTo {d : zD} (hd : dok 5 d) (hg : okS (M 171)) (hN : 100 < N) : f_Draft_answerTo N (zC A X M F I J G K w e) (cdd d) (A + 170) = some (ni (ansN (cs (M 171)) d)) := by
  have hm : mC M F I J G K (170 + 1) = M 171 := mC_fix fx170
  rw [zC, s_answerTo (M := mC M F I J G K) rec170 hd (by rw [hm]; exact hg) hN, hm]
theorem s_exact_L {c : Nat} {D : Nat → zD} (hc : M 3 2 = ni c) (hc4 : c ≤ 4) (hD : ∀ i, i < c → dok 5 (D i) ∧ M 4 i = cdd (D i)) {d0 : zD} (h0 : dok 5 d0) (rc : Nat) : ∀ (m i f : Nat) (x : Int32), byt x → i + m = c → m < f →
    ∃ y, L_Draft_isExact_5 N (zC A X M F I J G K w e) (A + 3) (cdd d0) rc f x (ni i) = some y ∧ byt y ∧ ∀ u, u < 8 → (bt y u = true ↔ (bt x u = true ∨ ∃ j, i ≤ j ∧ j < c ∧ sameNT (D j) d0 ∧ (D j).2.2.2 = u)) := by
  intro m
  induction m with
  | zero =>
    intro i f x hx h3 h4
    obtain ⟨g, rfl⟩ : ∃ g, f = g + 1 := ⟨f - 1, by omega⟩
    refine ⟨x, ?_, hx, fun u _ => ⟨Or.inl, fun q => ?_⟩⟩
    · rw [L_Draft_isExact_5, cg3_2, zb1_some, hc, if_pos ((zle (i := i) (m := c) (by omega) (by omega)).mpr (by omega))]
    · rcases q with q | ⟨j, j1, j2, -⟩
      · exact q
      · omega
  | succ m ih =>
    intro i f x hx h3 h4
    obtain ⟨g, rfl⟩ : ∃ g, f = g + 1 := ⟨f - 1, by omega⟩
    obtain ⟨hd, hM⟩ := hD i (by omega)
    have hai : zai (zC A X M F I J G K w e) (A + 4) (ni i) = some (cdd (D i)) := by
      rw [C_ai (k := 4) (len := 4) (i := i) (by decide) ⟨by decide, by decide⟩ rfl (by omega) (by decide), hM]
    rw [L_Draft_isExact_5, cg3_2, zb1_some, hc, if_neg (fun q => absurd ((zle (i := i) (m := c) (by omega) (by omega)).mp q) (by omega))]
    simp only [cr3_0, zb1_some, hai]
    by_cases hs : sameNT (D i) d0
    · have h8 : (D i).2.2.2 < 8 := hd.2.2.2.2
      have hb : byt (x ||| (1 <<< (ni (D i).2.2.2 &&& 31))) := byt_or hx (byt_bit h8)
      obtain ⟨y, y1, y2, y3⟩ := ih (i + 1) g _ hb (by omega) (by omega)
      refine ⟨y, ?_, y2, fun u hu => ?_⟩
      · rw [if_pos ((cdd_same hd h0).mpr hs), show f_ZoneNodes_valueOf N (zC A X M F I J G K w e) (cdd (D i)) = some (ni (D i).2.2.2) from s_valueOf (by have := hd.1; omega) hd.2.1 hd.2.2.2.1 h8, zb1_some, ni_succ, y1]
      · rw [y3 u hu, bt_or, bt_bit h8, Bool.or_eq_true, decide_eq_true_eq]
        constructor
        · rintro ((q | q) | ⟨j, j1, j2, j3⟩)
          · exact Or.inl q
          · exact Or.inr ⟨i, Nat.le_refl i, by omega, hs, q⟩
          · exact Or.inr ⟨j, by omega, j2, j3⟩
        · rintro (q | ⟨j, j1, j2, j3, j4⟩)
          · exact Or.inl (Or.inl q)
          · by_cases ej : j = i
            · subst ej
              exact Or.inl (Or.inr j4)
            · exact Or.inr ⟨j, by omega, j2, j3, j4⟩
    · obtain ⟨y, y1, y2, y3⟩ := ih (i + 1) g x hx (by omega) (by omega)
      refine ⟨y, ?_, y2, fun u hu => ?_⟩
      · rw [if_neg (fun q => hs ((cdd_same hd h0).mp q)), ni_succ, y1]
      · rw [y3 u hu]
        constructor
        · rintro (q | ⟨j, j1, j2, j3⟩)
          · exact Or.inl q
          · exact Or.inr ⟨j, by omega, j2, j3⟩
        · rintro (q | ⟨j, j1, j2, j3, j4⟩)
          · exact Or.inl q
          · by_cases ej : j = i
            · subst ej
              exact absurd j3 hs
            · exact Or.inr ⟨j, by omega, j2, j3, j4⟩
theorem s_isExact {c : Nat} {D : Nat → zD} (hc : M 3 2 = ni c) (hc4 : c ≤ 4) (hD : ∀ i, i < c → dok 5 (D i) ∧ M 4 i = cdd (D i)) {d0 : zD} (h0 : dok 5 d0) (h3 : d0.1 = 3) (hg : okS (M 171)) (hN : 100 < N) : f_Draft_isExact N (zC A X M F I J G K w e) (A + 3) (cdd d0) (A + 170) = some (pif (exactN (cs (M 171)) D c d0) 1 0) := by
  obtain ⟨a0, a1, a2, a3, a4⟩ := h0
  obtain ⟨y, y1, y2, y3⟩ := s_exact_L (N := N) (A := A) (X := X) (F := F) (I := I) (J := J) (G := G) (K := K) (w := w) (e := e) hc hc4 hD ⟨a0, a1, a2, a3, a4⟩ (A + 170) c 0 N 0 byt_zero (by omega) (by omega)
  have y1' : L_Draft_isExact_5 N (zC A X M F I J G K w e) (A + 3) (cdd d0) (A + 170) N 0 0 = some y := y1
  unfold f_Draft_isExact
  rw [y1', zb1_some, show f_ZoneNodes_nameOf N (zC A X M F I J G K w e) (cdd d0) = some (ni d0.2.1) from s_nameOf (by omega) a1 a3 a4, zb1_some, show f_ZoneNodes_typeOf N (zC A X M F I J G K w e) (cdd d0) = some (ni d0.2.2.1) from s_typeOf (by omega) a1 a3 a4, zb1_some, ck170, zb1_some, C_valuesOf a1 a2 a3, zb1_some]
  have hbit : ∀ u, u < 8 → cs (M 171) (pl d0.2.1 d0.2.2.1 u) = bt (M 171 (4 * d0.2.1 + d0.2.2.1 - 1)) u := by
    intro u hu
    unfold cs pl
    rw [show (32 * d0.2.1 + 8 * (d0.2.2.1 - 1) + u) / 8 = 4 * d0.2.1 + d0.2.2.1 - 1 by omega, show (32 * d0.2.1 + 8 * (d0.2.2.1 - 1) + u) % 8 = u by omega]
  have ht : ∀ u, u < 8 → (bt y u = true ↔ tells D c d0 u) := by
    intro u hu
    rw [y3 u hu]
    constructor
    · rintro (q | ⟨j, j1, j2, ⟨j3, j4, j5⟩, j6⟩)
      · rw [bt_zero] at q
        cases q
      · exact ⟨j, j2, j3.trans h3, j4, j5, j6⟩
    · rintro ⟨j, j2, j3, j4, j5, j6⟩
      exact Or.inr ⟨j, Nat.zero_le j, j2, ⟨j3.trans h3.symm, j4, j5⟩, j6⟩
  by_cases hy : y = M 171 (4 * d0.2.1 + d0.2.2.1 - 1)
  · have hex : exactN (cs (M 171)) D c d0 := fun u hu => by rw [hbit u hu, ← hy]; exact ht u hu
    rw [if_pos hy, pif_pos hex]
  · have hex : ¬ exactN (cs (M 171)) D c d0 := by
      intro q
      apply hy
      apply bt_ext y2 (hg _ (by omega))
      intro u hu
      rw [← hbit u hu, Bool.eq_iff_iff, ht u hu]
      exact (q u hu).symm
    rw [if_neg hy, pif_neg hex]
theorem firstN_lt (s : Nat → Bool) (D : Nat → zD) : ∀ (m i : Nat), firstN s D i m < 9
  | 0, _ => by
    show 0 < 9
    decide
  | m + 1, i => by
    unfold firstN
    split
    · exact firstN_lt s D m (i + 1)
    · exact ansN_lt s _
theorem s_unmet_L1 {c : Nat} {D : Nat → zD} (hc : M 3 2 = ni c) (hc4 : c ≤ 4) (hD : ∀ i, i < c → dok 5 (D i) ∧ M 4 i = cdd (D i)) (hg : okS (M 171)) (hN : 100 < N) : ∀ (m i f : Nat), i + m = c → m < f →
    L_Draft_unmetNeed_2 N (zC A X M F I J G K w e) (A + 3) (A + 170) f (ni i) = some (if firstN (cs (M 171)) D i m = 0 then .inr () else .inl (ni (firstN (cs (M 171)) D i m))) := by
  intro m
  induction m with
  | zero =>
    intro i f h3 h4
    obtain ⟨g, rfl⟩ : ∃ g, f = g + 1 := ⟨f - 1, by omega⟩
    rw [L_Draft_unmetNeed_2, cg3_2, zb1_some, hc, if_pos ((zle (i := i) (m := c) (by omega) (by omega)).mpr (by omega))]
    rfl
  | succ m ih =>
    intro i f h3 h4
    obtain ⟨g, rfl⟩ : ∃ g, f = g + 1 := ⟨f - 1, by omega⟩
    obtain ⟨hd, hM⟩ := hD i (by omega)
    have hl := ansN_lt (cs (M 171)) (D i)
    rw [L_Draft_unmetNeed_2, cg3_2, zb1_some, hc, if_neg (fun q => absurd ((zle (i := i) (m := c) (by omega) (by omega)).mp q) (by omega)), cr3_0, zb1_some, C_ai (k := 4) (len := 4) (i := i) (by decide) ⟨by decide, by decide⟩ rfl (by omega) (by decide), zb1_some, hM, C_answerTo hd hg hN, zb1_some, ni_succ, ih (i + 1) g (by omega) (by omega), firstN]
    by_cases h0 : ansN (cs (M 171)) (D i) = 0
    · rw [if_pos (show ni (ansN (cs (M 171)) (D i)) = 0 by rw [h0]; rfl), if_pos h0]
    · rw [if_neg (show ¬ ni (ansN (cs (M 171)) (D i)) = 0 from fun q => h0 ((ni_inj (b := 0) (by omega) (by decide)).mp q)), if_neg h0, if_neg h0]
theorem s_unmet_L2 {c : Nat} {D : Nat → zD} (hc : M 3 2 = ni c) (hc4 : c ≤ 4) (hD : ∀ i, i < c → dok 5 (D i) ∧ M 4 i = cdd (D i)) (hg : okS (M 171)) (hN : 100 < N) : ∀ (m i f : Nat), i + m = c → m < f →
    L_Draft_unmetNeed_35 N (zC A X M F I J G K w e) (A + 3) (A + 170) f (ni i) = some (pif (∃ j, i ≤ j ∧ j < c ∧ (D j).1 = 3 ∧ ¬ exactN (cs (M 171)) D c (D j)) (.inl 8) (.inr ())) := by
  intro m
  induction m with
  | zero =>
    intro i f h3 h4
    obtain ⟨g, rfl⟩ : ∃ g, f = g + 1 := ⟨f - 1, by omega⟩
    rw [L_Draft_unmetNeed_35, cg3_2, zb1_some, hc, if_pos ((zle (i := i) (m := c) (by omega) (by omega)).mpr (by omega)), pif_neg]
    rintro ⟨j, j1, j2, -⟩
    omega
  | succ m ih =>
    intro i f h3 h4
    obtain ⟨g, rfl⟩ : ∃ g, f = g + 1 := ⟨f - 1, by omega⟩
    obtain ⟨hd, hM⟩ := hD i (by omega)
    obtain ⟨a0, a1, a2, a3, a4⟩ := hd
    have hai : zai (zC A X M F I J G K w e) (A + 4) (ni i) = some (cdd (D i)) := by
      rw [C_ai (k := 4) (len := 4) (i := i) (by decide) ⟨by decide, by decide⟩ rfl (by omega) (by decide), hM]
    rw [L_Draft_unmetNeed_35, cg3_2, zb1_some, hc, if_neg (fun q => absurd ((zle (i := i) (m := c) (by omega) (by omega)).mp q) (by omega))]
    simp only [cr3_0, zb1_some, hai, ck3]
    rw [show f_ZoneNodes_formOf N (zC A X M F I J G K w e) (cdd (D i)) = some (ni (D i).1) from s_formOf (by omega) a1 a3 a4, zb1_some, ni_succ, ih (i + 1) g (by omega) (by omega)]
    have e3 : (ni (D i).1 = 3) ↔ (D i).1 = 3 := ni_inj (a := (D i).1) (by omega) (b := 3) (by decide)
    by_cases f3 : (D i).1 = 3
    · rw [if_pos (e3.mpr f3), s_isExact hc hc4 hD ⟨a0, a1, a2, a3, a4⟩ f3 hg hN, zb1_some]
      by_cases hx : exactN (cs (M 171)) D c (D i)
      · rw [pif_pos hx, if_neg (by decide)]
        congr 1
        apply pif_congr
        constructor
        · rintro ⟨j, j1, j2, j3, j4⟩
          exact ⟨j, by omega, j2, j3, j4⟩
        · rintro ⟨j, j1, j2, j3, j4⟩
          refine ⟨j, ?_, j2, j3, j4⟩
          by_cases ej : j = i
          · subst ej
            exact absurd hx j4
          · omega
      · rw [pif_neg hx, if_pos rfl, pif_pos ⟨i, Nat.le_refl i, by omega, f3, hx⟩]
    · rw [if_neg (fun q => f3 (e3.mp q))]
      congr 1
      apply pif_congr
      constructor
      · rintro ⟨j, j1, j2, j3, j4⟩
        exact ⟨j, by omega, j2, j3, j4⟩
      · rintro ⟨j, j1, j2, j3, j4⟩
        refine ⟨j, ?_, j2, j3, j4⟩
        by_cases ej : j = i
        · subst ej
          exact absurd j3 f3
        · omega
theorem s_unmetNeed {c : Nat} {D : Nat → zD} (hc : M 3 2 = ni c) (hc4 : c ≤ 4) (hD : ∀ i, i < c → dok 5 (D i) ∧ M 4 i = cdd (D i)) (hg : okS (M 171)) (hN : 100 < N) : ∃ r, f_Draft_unmetNeed N (zC A X M F I J G K w e) (A + 3) (A + 170) = some r ∧ unmetN (cs (M 171)) D c r := by
  unfold f_Draft_unmetNeed
  rw [show (0 : Int32) = ni 0 from rfl, s_unmet_L1 hc hc4 hD hg hN c 0 N (by omega) (by omega)]
  by_cases h0 : firstN (cs (M 171)) D 0 c = 0
  · rw [if_pos h0, zbs_inr, s_unmet_L2 hc hc4 hD hg hN c 0 N (by omega) (by omega)]
    by_cases h1 : ∃ j, 0 ≤ j ∧ j < c ∧ (D j).1 = 3 ∧ ¬ exactN (cs (M 171)) D c (D j)
    · rw [pif_pos h1, zbs_inl]
      obtain ⟨j, -, j2⟩ := h1
      exact ⟨8, rfl, Or.inr (Or.inl ⟨h0, ⟨j, j2⟩, rfl⟩)⟩
    · rw [pif_neg h1, zbs_inr]
      exact ⟨_, rfl, Or.inr (Or.inr ⟨h0, fun ⟨j, j2⟩ => h1 ⟨j, Nat.zero_le j, j2⟩, rfl⟩)⟩
  · rw [if_neg h0, zbs_inl]
    exact ⟨_, rfl, Or.inl ⟨h0, rfl⟩⟩
theorem s_chgs_L {c : Nat} {D : Nat → zD} (hc4 : c ≤ 4) (hN : 100 < N) : ∀ (m i f : Nat) (M : Nat → Nat → Int32), M 3 3 = ni c → (∀ i, i < c → dok 4 (D i) ∧ M 5 i = cdd (D i)) → okS (M 173) → i + m = c → m < f →
    ∃ g', L_Draft_changeRecords_2 N (A + 3) (A + 172) f (zC A X M F I J G K w e) (ni i) = some ((), zC A X (zu M 173 g') F I J G K w e) ∧ isChg (M 173) g' (chgs D i m (cs (M 173))) := by
  intro m
  induction m with
  | zero =>
    intro i f M hc hD hg h3 h4
    obtain ⟨g, rfl⟩ : ∃ g, f = g + 1 := ⟨f - 1, by omega⟩
    refine ⟨M 173, ?_, hg, fun q => rfl⟩
    rw [L_Draft_changeRecords_2, cg3_3, zb1_some, hc, if_pos ((zle (i := i) (m := c) (by omega) (by omega)).mpr (by omega)), zu_id]
  | succ m ih =>
    intro i f M hc hD hg h3 h4
    obtain ⟨g, rfl⟩ : ∃ g, f = g + 1 := ⟨f - 1, by omega⟩
    obtain ⟨⟨a0, a1, a2, a3, a4⟩, hM⟩ := hD i (by omega)
    have hm : mC M F I J G K (172 + 1) = M 173 := mC_fix fx172
    obtain ⟨g1, q1, q2, q3⟩ := s_makeChange (N := N) (A := A) (X := X) (M := mC M F I J G K) (P := pC w e) rec172 a0 a1 a2 a3 a4 (by rw [hm]; exact hg) hN
    rw [hm] at q3
    have q1' : f_Records_makeChange N (zC A X M F I J G K w e) (A + 172) (cdd (D i)) = some ((), zC A X (zu M 173 g1) F I J G K w e) := by
      unfold cdd
      rw [zC, q1, zu_fix fx172, zC]
    obtain ⟨g2, p1, p2, p3⟩ := ih (i + 1) g (zu M 173 g1) hc hD (by rw [zu_same]; exact q2) (by omega) (by omega)
    rw [zu_zu] at p1
    rw [zu_same, show cs g1 = chg (cs (M 173)) (D i).1 (D i).2.1 (D i).2.2.1 (D i).2.2.2 from funext q3] at p3
    refine ⟨g2, ?_, p2, p3⟩
    rw [L_Draft_changeRecords_2, cg3_3, zb1_some, hc, if_neg (fun q => absurd ((zle (i := i) (m := c) (by omega) (by omega)).mp q) (by omega)), cr3_1, zb1_some, C_ai (k := 5) (len := 4) (i := i) (by decide) ⟨by decide, by decide⟩ rfl (by omega) (by decide), zb1_some, hM, ck172, zb1_some, q1', zb2_some, ni_succ, p1]
theorem s_changeRecords {c : Nat} {D : Nat → zD} (hc : M 3 3 = ni c) (hc4 : c ≤ 4) (hD : ∀ i, i < c → dok 4 (D i) ∧ M 5 i = cdd (D i)) (hg : okS (M 173)) (hN : 100 < N) : ∃ g', f_Draft_changeRecords N (zC A X M F I J G K w e) (A + 3) (A + 172) = some ((), zC A X (zu M 173 g') F I J G K w e) ∧ isChg (M 173) g' (chgs D 0 c (cs (M 173))) := by
  obtain ⟨g', q1, q2⟩ := s_chgs_L (N := N) (A := A) (X := X) (F := F) (I := I) (J := J) (G := G) (K := K) (w := w) (e := e) hc4 hN c 0 N M hc hD hg (by omega) (by omega)
  refine ⟨g', ?_, q2⟩
  unfold f_Draft_changeRecords
  have q1' : L_Draft_changeRecords_2 N (A + 3) (A + 172) N (zC A X M F I J G K w e) 0 = some ((), zC A X (zu M 173 g') F I J G K w e) := q1
  rw [q1', zb2_some]
end ZNEED2
