/-! the reference: the changes of an update -/
def isRc (g g' : Nat → Int32) (s : Nat → Bool) : Prop := b01 g' 256 ∧ ∀ q, q < 256 → rb g' q = s q
theorem rb_upd1 (g : Nat → Int32) (p q : Nat) : rb (upd g p 1) q = sPut (rb g) p q := by
  unfold rb upd sPut
  by_cases h : q = p
  · rw [if_pos h]
    simp [h]
  · rw [if_neg h]
    simp [h]
theorem rb_upd0 (g : Nat → Int32) (p q : Nat) : rb (upd g p 0) q = sDel (rb g) p q := by
  unfold rb upd sDel
  by_cases h : q = p
  · rw [if_pos h]
    simp [h]
  · rw [if_neg h]
    simp [h]
/-- places a .. b - 1 are 0 -/
def zer (g : Nat → Int32) (a b : Nat) : Nat → Int32 := fun j => if a ≤ j ∧ j < b then 0 else g j
theorem zer_nil (g : Nat → Int32) {a b : Nat} (h : b ≤ a) : zer g a b = g := by
  funext j
  exact if_neg (by omega)
theorem zer_step (g : Nat → Int32) {a b : Nat} (h : a < b) : zer (upd g a 0) (a + 1) b = zer g a b := by
  funext j
  unfold zer upd
  by_cases e : j = a
  · subst e
    rw [if_neg (by omega), if_pos rfl, if_pos ⟨Nat.le_refl j, h⟩]
  · by_cases e1 : a + 1 ≤ j ∧ j < b
    · rw [if_pos e1, if_pos (by omega)]
    · rw [if_neg e1, if_neg e, if_neg (by omega)]
theorem zer_b01 {g : Nat → Int32} {n : Nat} (h : b01 g n) (a b : Nat) : b01 (zer g a b) n := by
  intro j hj
  unfold zer
  split
  · exact Or.inl rfl
  · exact h j hj
theorem rb_zer (g : Nat → Int32) (a b q : Nat) : rb (zer g a b) q = (rb g q && !decide (a ≤ q ∧ q < b)) := by
  unfold rb zer
  by_cases h : a ≤ q ∧ q < b
  · rw [if_pos h]
    simp [h]
  · rw [if_neg h]
    simp [h]
section ZREFP
variable {B : Nat} {Y : zh_T} {R : Nat → Nat → Int32} {N : Nat}
theorem k_add77_no {f : Nat} {w1 w2 w3 w6 : Int32} (h : w6 = 0 ∨ w2 ≠ 2) : L_ZoneNodesModel_add_77 N B w1 w2 w3 w6 (f + 1) (zR B Y R) 0 = some ((), zR B Y R) := by
  rw [L_ZoneNodesModel_add_77, if_neg (by decide)]
  by_cases h6 : w6 = 0
  · rw [if_pos h6]
  · rw [if_neg h6, if_neg (h.resolve_left h6)]
theorem k_add77 {nm : Nat} (hnm : nm < 8) (w3 : Int32) : ∀ (m v f : Nat) (R : Nat → Nat → Int32), v + m = 8 → m < f → L_ZoneNodesModel_add_77 N B (ni nm) 2 w3 1 f (zR B Y R) (ni v) = some ((), zR B Y (zu R 16 (zer (R 16) (32 * nm + 8 + v) (32 * nm + 16)))) := by
  intro m
  induction m with
  | zero =>
    intro v f R h3 h4
    obtain ⟨g, rfl⟩ : ∃ g, f = g + 1 := ⟨f - 1, by omega⟩
    rw [L_ZoneNodesModel_add_77, if_pos (show (8 : Int32) ≤ ni v from (ni_le (a := 8) (b := v) (by decide) (by omega)).mpr (by omega)), zer_nil _ (by omega), zu_id]
  | succ m ih =>
    intro v f R h3 h4
    obtain ⟨g, rfl⟩ : ∃ g, f = g + 1 := ⟨f - 1, by omega⟩
    have hp : f_ZoneNodesModel_place N (zR B Y R) (ni nm) 2 (ni v) = some (ni (32 * nm + 8 + v)) := by
      have h := k_place (N := N) (X := zR B Y R) (a := nm) (t := 2) (v := v) (by decide)
      unfold pl at h
      exact h
    rw [L_ZoneNodesModel_add_77, if_neg (show ¬ (8 : Int32) ≤ ni v from fun q => absurd ((ni_le (a := 8) (b := v) (by decide) (by omega)).mp q) (by omega)), if_neg (by decide), if_pos rfl, rr23, zb1_some, hp, zb1_some, rs16 (i := 32 * nm + 8 + v) (by omega) (Or.inl rfl), zb1_some, ni_succ, ih (v + 1) g _ (by omega) (by omega), zu_zu, zu_same, show 32 * nm + 8 + (v + 1) = 32 * nm + 8 + v + 1 by omega, zer_step _ (by omega)]
theorem k_add {nm ty v : Nat} (h1 : nm < 8) (h2 : 1 ≤ ty) (h3 : ty ≤ 4) (h4 : v < 8) (hb : b01 (R 16) 256) (hN : 300 < N) : ∃ g, f_ZoneNodesModel_add N (zR B Y R) B (ni nm) (ni ty) (ni v) = some ((), zR B Y (zu R 16 g)) ∧ isRc (R 16) g (sAdd (rb (R 16)) nm ty v) := by
  obtain ⟨f, hf⟩ : ∃ f, N = f + 1 := ⟨N - 1, by omega⟩
  have hp2 : ∀ X : zh_T, f_ZoneNodesModel_place N X (ni nm) 2 0 = some (ni (32 * nm + 8)) := by
    intro X
    have h := k_place (N := N) (X := X) (a := nm) (t := 2) (v := 0) (by decide)
    unfold pl at h
    exact h
  have hpl : pl nm ty v < 256 := by unfold pl; omega
  have w1 : f_ZoneNodesModel_works N (zR B Y R) B (32 * ni nm) (32 * ni nm + 32) = some (ni (cnt (rb (R 16)) (32 * nm) 32)) := by
    rw [show (32 : Int32) = ni 32 from rfl, ni_mul, ni_add, k_works (by omega) (by omega) hb hN, show 32 * nm + 32 - 32 * nm = 32 by omega]
  have w2 : f_ZoneNodesModel_works N (zR B Y R) B (ni (32 * nm + 8)) (ni (32 * nm + 8) + 8) = some (ni (cnt (rb (R 16)) (32 * nm + 8) 8)) := by
    rw [show (8 : Int32) = ni 8 from rfl, ni_add, k_works (by omega) (by omega) hb hN, show 32 * nm + 8 + 8 - (32 * nm + 8) = 8 by omega]
  have no : ∀ (w2 w6 : Int32), (w6 = 0 ∨ w2 ≠ 2) → L_ZoneNodesModel_add_77 N B (ni nm) w2 (ni v) w6 N (zR B Y R) 0 = some ((), zR B Y R) := by
    intro w2 w6 h
    have e := k_add77_no (N := N) (B := B) (Y := Y) (R := R) (f := f) (w1 := ni nm) (w3 := ni v) h
    rw [← hf] at e
    exact e
  have same : ∃ g, some ((), zR B Y R) = some ((), zR B Y (zu R 16 g)) ∧ isRc (R 16) g (rb (R 16)) := ⟨R 16, by rw [zu_id], hb, fun q _ => rfl⟩
  have e2 : (ni ty = 2) ↔ ty = 2 := ni_inj (a := ty) (by omega) (b := 2) (by decide)
  have e0 : (ni nm = 0) ↔ nm = 0 := ni_inj (a := nm) (by omega) (b := 0) (by decide)
  have l1 := cnt_le (rb (R 16)) 32 (32 * nm)
  have l2 := cnt_le (rb (R 16)) 8 (32 * nm + 8)
  unfold f_ZoneNodesModel_add sAdd
  simp only [rck, zb1_some, w1, hp2, w2]
  by_cases ht : ty = 2
  · subst ht
    rw [if_pos (e2.mpr rfl), if_neg (show ¬ (2 : Nat) ≠ 2 from fun q => q rfl)]
    by_cases hn : nm = 0
    · rw [if_pos (e0.mpr hn), no _ _ (Or.inl rfl), zb2_some, if_neg (show ¬ (nm ≠ 0 ∧ cnt (rb (R 16)) (32 * nm) 32 = cnt (rb (R 16)) (32 * nm + 8) 8) from fun q => q.1 hn)]
      exact same
    · rw [if_neg (fun q => hn (e0.mp q))]
      by_cases ho : cnt (rb (R 16)) (32 * nm) 32 = cnt (rb (R 16)) (32 * nm + 8) 8
      · have hl := k_add77 (N := N) (B := B) (Y := Y) h1 (ni v) 8 0 N R (by omega) (by omega)
        rw [Nat.add_zero] at hl
        have hl' : L_ZoneNodesModel_add_77 N B (ni nm) (ni 2) (ni v) 1 N (zR B Y R) 0 = some ((), zR B Y (zu R 16 (zer (R 16) (32 * nm + 8) (32 * nm + 16)))) := hl
        rw [if_pos (by rw [ho]), hl', zb2_some, rr23, zb1_some, k_place (by decide), zb1_some, rs16 hpl (Or.inr rfl), zb1_some, zu_zu, zu_same, if_pos (show nm ≠ 0 ∧ cnt (rb (R 16)) (32 * nm) 32 = cnt (rb (R 16)) (32 * nm + 8) 8 from ⟨hn, ho⟩)]
        refine ⟨_, rfl, b01_upd (zer_b01 hb _ _) (Or.inr rfl), fun q hq => ?_⟩
        rw [rb_upd1]
        unfold sPut sClr
        rw [rb_zer]
        have hdd : decide (32 * nm + 8 ≤ q ∧ q < 32 * nm + 16) = decide (q / 8 = 4 * nm + 1) := decide_eq_decide.mpr (by omega)
        rw [hdd]
      · rw [if_neg (fun q => ho ((ni_inj (by omega) (by omega)).mp q)), no _ _ (Or.inl rfl), zb2_some, if_neg (show ¬ (nm ≠ 0 ∧ cnt (rb (R 16)) (32 * nm) 32 = cnt (rb (R 16)) (32 * nm + 8) 8) from fun q => ho q.2)]
        exact same
  · rw [if_neg (fun q => ht (e2.mp q)), if_pos ht]
    by_cases ho : cnt (rb (R 16)) (32 * nm + 8) 8 = 0
    · rw [if_pos (show ni (cnt (rb (R 16)) (32 * nm + 8) 8) = 0 by rw [ho]; rfl), no _ _ (Or.inr (fun q => ht (e2.mp q))), zb2_some, rr23, zb1_some, k_place h2, zb1_some, rs16 hpl (Or.inr rfl), zb1_some, if_pos ho]
      exact ⟨_, rfl, b01_upd hb (Or.inr rfl), fun q _ => rb_upd1 _ _ _⟩
    · rw [if_neg (fun q => ho ((ni_eq0 (by omega)).mp q)), no _ _ (Or.inl rfl), zb2_some, if_neg ho]
      exact same
/-- what goes by CLEAR and WIPE -/
def goesP (fm nm ty k : Nat) : Prop := ¬ (16 ≤ k ∧ k < 24) ∧ (fm = 2 ∨ (k - 32 * nm) / 8 = ty - 1)
noncomputable def prf (g : Nat → Int32) (fm nm ty a b : Nat) : Nat → Int32 := fun j => if a ≤ j ∧ j < b then pif (rb g j = true ∧ ¬ goesP fm nm ty j) 1 0 else g j
theorem k_perf_no {f fm nm : Nat} (h0 : fm = 0 ∨ fm = 3) (hnm : nm < 8) (w4 w5 w6 : Int32) : L_ZoneNodesModel_perform_85 N B (ni fm) (ni nm) w4 w5 w6 (f + 1) (zR B Y R) (ni (32 * nm)) = some ((), zR B Y R) := by
  rw [L_ZoneNodesModel_perform_85, show (32 : Int32) = ni 32 from rfl, ni_mul, ni_add, if_neg (fun q => absurd ((zle (i := 32 * nm) (m := 32 * nm + 32) (by omega) (by omega)).mp q) (by omega))]
  rcases h0 with rfl | rfl
  · rw [if_neg (by decide), if_neg (by decide)]
  · rw [if_neg (by decide), if_neg (by decide)]
theorem k_perf_L {fm nm ty : Nat} (h0 : fm = 1 ∨ fm = 2) (hnm : nm < 8) (h2 : 1 ≤ ty) (h3 : ty ≤ 4) (w5 : Int32) : ∀ (m k f : Nat) (R : Nat → Nat → Int32), b01 (R 16) 256 → 32 * nm ≤ k → k + m = 32 * nm + 32 → m < f →
    L_ZoneNodesModel_perform_85 N B (ni fm) (ni nm) (ni ty) w5 (ni 16) f (zR B Y R) (ni k) = some ((), zR B Y (zu R 16 (prf (R 16) fm nm ty k (32 * nm + 32)))) := by
  intro m
  induction m with
  | zero =>
    intro k f R hb h4 h5 h6
    obtain ⟨g, rfl⟩ : ∃ g, f = g + 1 := ⟨f - 1, by omega⟩
    have e1 : prf (R 16) fm nm ty k (32 * nm + 32) = R 16 := by
      funext j
      exact if_neg (by omega)
    rw [L_ZoneNodesModel_perform_85, show (32 : Int32) = ni 32 from rfl, ni_mul, ni_add, if_pos ((zle (i := k) (m := 32 * nm + 32) (by omega) (by omega)).mpr (by omega)), e1, zu_id]
  | succ m ih =>
    intro k f R hb h4 h5 h6
    obtain ⟨g, rfl⟩ : ∃ g, f = g + 1 := ⟨f - 1, by omega⟩
    have hk : k < 256 := by omega
    have step : ∀ v : Int32, (v = 0 ∨ v = 1) → v = pif (rb (R 16) k = true ∧ ¬ goesP fm nm ty k) 1 0 → L_ZoneNodesModel_perform_85 N B (ni fm) (ni nm) (ni ty) w5 (ni 16) g (zR B Y (zu R 16 (upd (R 16) k v))) (ni (k + 1)) = some ((), zR B Y (zu R 16 (prf (R 16) fm nm ty k (32 * nm + 32)))) := by
      intro v hv he
      rw [ih (k + 1) g _ (by rw [zu_same]; exact b01_upd hb hv) (by omega) (by omega) (by omega), zu_zu, zu_same]
      have e1 : prf (upd (R 16) k v) fm nm ty (k + 1) (32 * nm + 32) = prf (R 16) fm nm ty k (32 * nm + 32) := by
        funext j
        unfold prf
        by_cases e : j = k
        · subst e
          rw [if_neg (by omega), if_pos (by omega), upd_eq, he]
        · by_cases e1 : k + 1 ≤ j ∧ j < 32 * nm + 32
          · rw [if_pos e1, if_pos (by omega)]
            apply pif_congr
            rw [show rb (upd (R 16) k v) j = rb (R 16) j from by unfold rb; rw [upd_ne _ e]]
          · rw [if_neg e1, if_neg (by omega), upd_ne _ e]
      rw [e1]
    have hz := rb_zero hb hk
    rw [L_ZoneNodesModel_perform_85, show (32 : Int32) = ni 32 from rfl, ni_mul, ni_add, if_neg (fun q => absurd ((zle (i := k) (m := 32 * nm + 32) (by omega) (by omega)).mp q) (by omega))]
    have c1 : (ni fm = 1) ↔ fm = 1 := ni_inj (a := fm) (by omega) (b := 1) (by decide)
    have c2 : (ni fm = 2) ↔ fm = 2 := ni_inj (a := fm) (by omega) (b := 2) (by decide)
    have cl : (ni k < ni 16) ↔ k < 16 := ni_lt (by omega) (by decide)
    have cg : (ni 16 + 8 ≤ ni k) ↔ 24 ≤ k := by rw [show (8 : Int32) = ni 8 from rfl, ni_add, ni_le (by decide) (by omega)]
    have cr : ((ni k - ni (32 * nm)) / 8 = ni ty - 1) ↔ (k - 32 * nm) / 8 = ty - 1 := by
      rw [ni_sub h4, show (8 : Int32) = ni 8 from rfl, ni_div (by omega) (by decide), ni_pred h2, ni_inj (by omega) (by omega)]
    simp only [rr23, zb1_some, ra16 hk, rs16 (v := 0) hk (Or.inl rfl), rs16 (v := 1) hk (Or.inr rfl), ni_succ, c1, c2, cl, cg, cr]
    have g0 : (rb (R 16) k = false ∨ goesP fm nm ty k) → L_ZoneNodesModel_perform_85 N B (ni fm) (ni nm) (ni ty) w5 (ni 16) g (zR B Y (zu R 16 (upd (R 16) k 0))) (ni (k + 1)) = some ((), zR B Y (zu R 16 (prf (R 16) fm nm ty k (32 * nm + 32)))) := by
      intro h
      refine step 0 (Or.inl rfl) ?_
      rw [pif_neg]
      rintro ⟨q1, q2⟩
      rcases h with h | h
      · rw [h] at q1
        cases q1
      · exact q2 h
    have g1 : ¬ R 16 k = 0 → ¬ goesP fm nm ty k → L_ZoneNodesModel_perform_85 N B (ni fm) (ni nm) (ni ty) w5 (ni 16) g (zR B Y (zu R 16 (upd (R 16) k 1))) (ni (k + 1)) = some ((), zR B Y (zu R 16 (prf (R 16) fm nm ty k (32 * nm + 32)))) := by
      intro h h'
      refine step 1 (Or.inr rfl) ?_
      rw [pif_pos]
      refine ⟨?_, h'⟩
      cases hr : rb (R 16) k with
      | true => rfl
      | false => exact absurd (hz.mpr hr) h
    have f12 : ¬ (fm = 1 ∧ fm = 2) := by omega
    by_cases q0 : R 16 k = 0
    · have g0' := g0 (Or.inl (hz.mp q0))
      simp only [q0, if_true, g0', ite_self]
      rcases h0 with rfl | rfl <;> simp
    · simp only [q0, if_false]
      by_cases a1 : k < 16
      · by_cases a3 : (k - 32 * nm) / 8 = ty - 1
        · have hg : goesP fm nm ty k := ⟨by omega, Or.inr a3⟩
          rcases h0 with rfl | rfl <;> simp [a1, a3, g0 (Or.inr hg)]
        · rcases h0 with rfl | rfl
          · have hg : ¬ goesP 1 nm ty k := fun q => q.2.elim (by decide) a3
            simp [a1, a3, g1 q0 hg]
          · have hg : goesP 2 nm ty k := ⟨by omega, Or.inl rfl⟩
            simp [a1, a3, g0 (Or.inr hg)]
      · by_cases a2 : 24 ≤ k
        · by_cases a3 : (k - 32 * nm) / 8 = ty - 1
          · have hg : goesP fm nm ty k := ⟨by omega, Or.inr a3⟩
            rcases h0 with rfl | rfl <;> simp [a1, a2, a3, g0 (Or.inr hg)]
          · rcases h0 with rfl | rfl
            · have hg : ¬ goesP 1 nm ty k := fun q => q.2.elim (by decide) a3
              simp [a1, a2, a3, g1 q0 hg]
            · have hg : goesP 2 nm ty k := ⟨by omega, Or.inl rfl⟩
              simp [a1, a2, a3, g0 (Or.inr hg)]
        · have hg : ¬ goesP fm nm ty k := fun q => q.1 (by omega)
          rcases h0 with rfl | rfl <;> simp [a1, a2, g1 q0 hg]
end ZREFP
