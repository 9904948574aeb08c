/-! the class's journal and its primary -/
theorem cs_mix (g f : Nat → Int32) {q : Nat} (h : q < 256) : cs (zmix 0 g f) q = cs f q := by
  unfold cs
  rw [show zmix 0 g f (q / 8) = f (q / 8) from if_pos (by omega)]
theorem okS_mix (g : Nat → Int32) {f : Nat → Int32} (h : okS f) : okS (zmix 0 g f) := by
  intro i hi
  rw [show zmix 0 g f i = f i from if_pos (by omega)]
  exact h i hi
theorem mix_at (g f : Nat → Int32) {i : Nat} (h : i < 32) : zmix 0 g f i = f i := if_pos (by omega)
section ZJOUR
variable {A : Nat} {X : zh_T} {M F I J G K : Nat → Nat → Int32} {w e : Nat → Nat} {N : Nat}
theorem C_copy (hN : 100 < N) : f_Records_copyFrom N (zC A X M F I J G K w e) (A + 172) (A + 170) = some ((), zC A X (zu M 173 (zmix 0 (M 173) (M 171))) F I J G K w e) := by
  rw [zC, s_copyFrom rec172 rec170 (by decide) hN, zu_fix fx172, mC_fix fx172, mC_fix fx170, zC]
theorem C_diffG {x : Nat} (hx : x < 5) (hN : 100 < N) : f_Records_becomeDifference N (zC A X M F I J G K w e) (A + (176 + 5 * x + 1)) (A + 170) (A + 172) = some ((), zC A X M F I J (zu G x (zmix 0 (G x) (fun j => M 171 j &&& (M 173 j ^^^ (-1))))) K w e) := by
  rw [zC, s_difference (shC_G hx) rec170 rec172 (by omega) (by omega) hN, zu_G hx, mC_G hx, mC_fix fx170, mC_fix fx172, zC]
theorem C_diffK {x : Nat} (hx : x < 5) (hN : 100 < N) : f_Records_becomeDifference N (zC A X M F I J G K w e) (A + (176 + 5 * x + 3)) (A + 172) (A + 170) = some ((), zC A X M F I J G (zu K x (zmix 0 (K x) (fun j => M 173 j &&& (M 171 j ^^^ (-1))))) w e) := by
  rw [zC, s_difference (shC_K hx) rec172 rec170 (by omega) (by omega) hN, zu_K hx, mC_K hx, mC_fix fx170, mC_fix fx172, zC]
theorem C_exch {x : Nat} (hx : x < 5) (hN : 100 < N) : f_Records_exchange N (zC A X M F I J G K w e) (A + 170) (A + (176 + 5 * x + 1)) (A + (176 + 5 * x + 3)) = some ((), zC A X (zu M 171 (zmix 0 (M 171) (fun j => (M 171 j &&& (G x j ^^^ (-1))) ||| K x j))) F I J G K w e) := by
  rw [zC, s_exchange rec170 (shC_G hx) (shC_K hx) (by omega) (by omega) hN, zu_fix fx170, mC_G hx, mC_K hx, mC_fix fx170, zC]
theorem s_latest {c : Nat} (hc : M 174 1 = ni c) (hc5 : c ≤ 5) : f_Journal_latest N (zC A X M F I J G K w e) (A + 174) = some (if c = 0 then none else some (A + (176 + 5 * e (c - 1)))) := by
  unfold f_Journal_latest
  simp only [cg174_1, zb1_some, hc, cr174_0]
  by_cases h : c = 0
  · subst h
    rfl
  · rw [if_neg (show ¬ ni c ≤ 0 from fun q => absurd ((ni_le (a := c) (b := 0) (by omega) (by decide)).mp q) (by omega)), if_neg h, ni_pred (a := c) (by omega), e_ar (i := c - 1) (by omega), zb1_some]
theorem s_markLatest {c : Nat} (hc : M 174 1 = ni c) (hc5 : c ≤ 5) (h1 : 1 ≤ c) (he : wperm e 5) : f_Journal_markLatest N (zC A X M F I J G K w e) (A + 174) = some ((), zC A X M F I (zu J (e (c - 1)) (upd (J (e (c - 1))) 3 1)) G K w e) := by
  unfold f_Journal_markLatest
  have hx := he.1 (c - 1) (by omega)
  simp only [cg174_1, zb1_some, hc, cr174_0]
  rw [if_neg (show ¬ ni c ≤ 0 from fun q => absurd ((ni_le (a := c) (b := 0) (by omega) (by decide)).mp q) (by omega)), ni_pred h1, e_ar (i := c - 1) (by omega), zb1_some, e_pz hx (j := 3) rfl (Or.inr rfl), zb1_some]
theorem s_dropLatest {c : Nat} (hc : M 174 1 = ni c) (hc5 : c ≤ 5) (h1 : 1 ≤ c) : f_Journal_dropLatest N (zC A X M F I J G K w e) (A + 174) = some ((), zC A X (zu M 174 (upd (M 174) 1 (ni (c - 1)))) F I J G K w e) := by
  unfold f_Journal_dropLatest
  simp only [cg174_1, zb1_some, hc]
  rw [if_neg (show ¬ ni c ≤ 0 from fun q => absurd ((ni_le (a := c) (b := 0) (by omega) (by decide)).mp q) (by omega)), ni_pred h1, cp174_1, zb1_some]
/-- the entry that is put behind the others -/
theorem s_append_j {c : Nat} (hc : M 174 1 = ni c) (hc5 : c < 5) (he : wperm e 5) (sr : Int32) (hN : 100 < N) : f_Journal_append N (zC A X M F I J G K w e) (A + 174) sr (A + 170) (A + 172) =
    some ((), zC A X (zu M 174 (upd (M 174) 1 (ni (c + 1)))) F I (zu J (e c) (upd (upd (J (e c)) 2 sr) 3 0)) (zu G (e c) (zmix 0 (G (e c)) (fun j => M 171 j &&& (M 173 j ^^^ (-1))))) (zu K (e c) (zmix 0 (K (e c)) (fun j => M 173 j &&& (M 171 j ^^^ (-1))))) w e) := by
  unfold f_Journal_append
  have hx := he.1 c hc5
  simp only [cg174_1, zb1_some, hc, cr174_0, e_ln]
  rw [if_pos ((ni_lt (a := c) (b := 5) (by omega) (by decide)).mpr hc5)]
  simp only [e_ar hc5, zb1_some, e_p hx (j := 2) rfl, e_pz hx (j := 3) rfl (Or.inl rfl), e_g0 hx, e_g1 hx, zl_ck (Nat.lt_of_succ_lt (shC_G hx).1) (shC_G hx).2.1]
  rw [show zck (zC A X M F I (zu (zu J (e c) (upd (J (e c)) 2 sr)) (e c) (upd (zu J (e c) (upd (J (e c)) 2 sr) (e c)) 3 0)) G K w e) (A + (176 + 5 * e c + 1)) 5 = some () from zl_ck (Nat.lt_of_succ_lt (shC_G hx).1) (shC_G hx).2.1, zb1_some, C_diffG hx hN, zb2_some]
  simp only [e_g1 hx, zb1_some]
  rw [show zck (zC A X M F I (zu (zu J (e c) (upd (J (e c)) 2 sr)) (e c) (upd (zu J (e c) (upd (J (e c)) 2 sr) (e c)) 3 0)) (zu G (e c) (zmix 0 (G (e c)) (fun j => M 171 j &&& (M 173 j ^^^ (-1))))) K w e) (A + (176 + 5 * e c + 3)) 5 = some () from zl_ck (Nat.lt_of_succ_lt (shC_K hx).1) (shC_K hx).2.1, zb1_some, C_diffK hx hN, zb2_some]
  simp only [cg174_1, zb1_some, hc, ni_succ, cp174_1, zu_zu, zu_same]
theorem s_keep_L (t : Nat) : ∀ (m j f : Nat) (e : Nat → Nat), (∀ i, i < 5 → e i < 5) → 1 ≤ j → j + m = 5 → m < f →
    L_Journal_keepLatest_18 N (A + 174) t f (zC A X M F I J G K w e) (ni j) = some ((), zC A X M F I J G K w (shf e (j - 1) 4)) := by
  intro m
  induction m with
  | zero =>
    intro j f e he h2 h3 h4
    obtain ⟨g, rfl⟩ : ∃ g, f = g + 1 := ⟨f - 1, by omega⟩
    rw [L_Journal_keepLatest_18]
    simp only [cr174_0, zb1_some, e_ln]
    rw [if_pos ((zle (i := j) (m := 5) (by omega) (by omega)).mpr (by omega)), shf_nil e (by omega)]
  | succ m ih =>
    intro j f e he h2 h3 h4
    obtain ⟨g, rfl⟩ : ∃ g, f = g + 1 := ⟨f - 1, by omega⟩
    have he' : ∀ i, i < 5 → va_up e (j - 1) (e j) i < 5 := by
      intro i hi
      unfold va_up
      split
      · exact he j (by omega)
      · exact he i hi
    rw [L_Journal_keepLatest_18]
    simp only [cr174_0, zb1_some, e_ln]
    rw [if_neg (fun q => absurd ((zle (i := j) (m := 5) (by omega) (by omega)).mp q) (by omega)), e_ar (i := j) (by omega), zb1_some, ni_pred h2, e_sr (i := j - 1) (by omega) (he j (by omega)), zb1_some, ni_succ, ih (j + 1) g _ he' (by omega) (by omega) (by omega), Nat.add_sub_cancel, shf_step e h2 (by omega)]
theorem s_keepLatest {c : Nat} (hc : M 174 1 = ni c) (hc5 : c ≤ 5) (he : wperm e 5) (hN : 100 < N) : f_Journal_keepLatest N (zC A X M F I J G K w e) (A + 174) =
    some ((), if c = 5 then zC A X (zu M 174 (upd (M 174) 1 4)) F I J G K w (rot e 0 4) else zC A X M F I J G K w e) := by
  unfold f_Journal_keepLatest
  simp only [cg174_1, zb1_some, hc, cr174_0]
  by_cases h : c = 5
  · subst h
    rw [if_pos (show (4 : Int32) < ni 5 from by decide), if_pos rfl, show (0 : Int32) = ni 0 from rfl, e_ar (i := 0) (by decide), zb1_some, show (1 : Int32) = ni 1 from rfl, s_keep_L _ 4 1 N e he.1 (by decide) (by decide) (by omega), zb2_some]
    simp only [cr174_0, zb1_some, e_ln]
    rw [show ni 5 - ni 1 = ni 4 from rfl, e_sr (i := 4) (by decide) (he.1 0 (by decide)), zb1_some, cp174_1, zb1_some]
    rfl
  · rw [if_neg (show ¬ (4 : Int32) < ni c from fun q => absurd ((ni_lt (a := 4) (b := c) (by decide) (by omega)).mp q) (by omega)), if_neg h]
end ZJOUR
