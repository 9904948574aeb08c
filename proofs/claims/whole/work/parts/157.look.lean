/-! a query: along the ALIASes -/
def alF (s : Nat → Bool) (a : Nat) : Nat → Nat → Option Nat
  | _, 0 => none
  | v, m + 1 => if s (32 * a + 8 + v) then some v else alF s a (v + 1) m
def alL (s : Nat → Bool) (a : Nat) : Nat → Nat → Option Nat → Option Nat
  | _, 0, x => x
  | v, m + 1, x => alL s a (v + 1) m (if s (32 * a + 8 + v) then some v else x)
theorem alL_zero (s : Nat → Bool) (a : Nat) : ∀ (m v : Nat) (x : Option Nat), cnt s (32 * a + 8 + v) m = 0 → alL s a v m x = x
  | 0, _, _, _ => rfl
  | m + 1, v, x, h => by
    have h1 : ((if s (32 * a + 8 + v) then 1 else 0) + cnt s (32 * a + 8 + v + 1) m = 0) := h
    have h2 : s (32 * a + 8 + v) = false := by
      cases hs : s (32 * a + 8 + v) with
      | false => rfl
      | true => rw [hs] at h1; simp at h1
    unfold alL
    rw [h2, if_neg (by decide)]
    exact alL_zero s a m (v + 1) x (by rw [show 32 * a + 8 + (v + 1) = 32 * a + 8 + v + 1 by omega]; omega)
theorem alL_alF (s : Nat → Bool) (a : Nat) : ∀ (m v : Nat), cnt s (32 * a + 8 + v) m ≤ 1 → alL s a v m none = alF s a v m
  | 0, _, _ => rfl
  | m + 1, v, h => by
    have h1 : ((if s (32 * a + 8 + v) then 1 else 0) + cnt s (32 * a + 8 + v + 1) m ≤ 1) := h
    unfold alL alF
    cases hs : s (32 * a + 8 + v) with
    | true =>
      rw [hs, if_pos rfl] at h1
      rw [if_pos rfl, if_pos rfl]
      exact alL_zero s a m (v + 1) _ (by rw [show 32 * a + 8 + (v + 1) = 32 * a + 8 + v + 1 by omega]; omega)
    | false =>
      rw [hs, if_neg (by decide)] at h1
      rw [if_neg (by decide), if_neg (by decide)]
      exact alL_alF s a m (v + 1) (by rw [show 32 * a + 8 + (v + 1) = 32 * a + 8 + v + 1 by omega]; omega)
theorem alF_lt (s : Nat → Bool) (a : Nat) : ∀ (m v u : Nat), alF s a v m = some u → u < v + m
  | 0, _, _, h => by cases h
  | m + 1, v, u, h => by
    unfold alF at h
    split at h
    · cases h
      omega
    · have := alF_lt s a m (v + 1) u h
      omega
theorem alF_congr {s t : Nat → Bool} (a : Nat) : ∀ (m v : Nat), (∀ q, 32 * a + 8 + v ≤ q → q < 32 * a + 8 + v + m → s q = t q) → alF s a v m = alF t a v m
  | 0, _, _ => rfl
  | m + 1, v, h => by
    unfold alF
    rw [h _ (Nat.le_refl _) (by omega), alF_congr a m (v + 1) fun q h1 h2 => h q (by omega) (by omega)]
theorem firstB_alF (g : Nat → Int32) (a : Nat) : ∀ (m v : Nat), v + m ≤ 8 → firstB (g (4 * a + 1)) v m = alF (cs g) a v m
  | 0, _, _ => rfl
  | m + 1, v, h => by
    unfold firstB alF
    have e1 := cs_at g (4 * a + 1) (show v < 8 by omega)
    rw [show 8 * (4 * a + 1) + v = 32 * a + 8 + v by omega] at e1
    rw [e1, firstB_alF g a m (v + 1) (by omega)]
def look (s : Nat → Bool) (ty : Nat) : Nat → Nat → Int32
  | 0, _ => 200
  | m + 1, a => match (if ty = 2 then none else alF s a 0 8) with
    | some u => look s ty m u
    | none => if cnt s (32 * a) 32 = 0 then 300 else ni (cnt s (32 * a + 8 * (ty - 1)) 8)
theorem look_congr {s t : Nat → Bool} (h : sEq s t) {ty : Nat} (h2 : 1 ≤ ty) (h3 : ty ≤ 4) : ∀ (m a : Nat), a < 8 → look s ty m a = look t ty m a
  | 0, _, _ => rfl
  | m + 1, a, ha => by
    unfold look
    rw [alF_congr (s := s) (t := t) a 8 0 fun q _ h5 => h q (by omega), h.cnt (o := 32 * a) (n := 32) (by omega), h.cnt (o := 32 * a + 8 * (ty - 1)) (n := 8) (by omega)]
    cases hq : (if ty = 2 then none else alF t a 0 8) with
    | none => rfl
    | some u =>
      have hu : u < 8 := by
        by_cases h4 : ty = 2
        · rw [if_pos h4] at hq
          cases hq
        · rw [if_neg h4] at hq
          have := alF_lt t a 8 0 u hq
          omega
      exact look_congr h h2 h3 m u hu
section ZLOOK
variable {sh : Nat → zl_S} {n A : Nat} {X : zh_T} {M : Nat → Nat → Int32} {P : Nat → Nat → Nat} {N k : Nat}
theorem s_look_L (h : zrec sh n k) {ty : Nat} (h2 : 1 ≤ ty) (h3 : ty ≤ 4) (hg : okS (M (k + 1))) (hN : 100 < N) : ∀ (m hp f a : Nat), hp + m = 9 → m < f → a < 8 →
    ∃ o, L_ZoneNodes_lookUp_5 N (zl sh n A X M P) (A + k) (ni ty) f (ni a) (ni hp) = some o ∧ Sum.elim (fun r => r) (fun _ => 200) o = look (cs (M (k + 1))) ty m a := by
  intro m
  induction m with
  | zero =>
    intro hp f a h4 h5 ha
    obtain ⟨g, rfl⟩ : ∃ g, f = g + 1 := ⟨f - 1, by omega⟩
    refine ⟨.inr (), ?_, rfl⟩
    rw [L_ZoneNodes_lookUp_5, if_pos (show (8 : Int32) < ni hp from (ni_lt (a := 8) (b := hp) (by decide) (by omega)).mpr (by omega))]
  | succ m ih =>
    intro hp f a h4 h5 ha
    obtain ⟨g, rfl⟩ : ∃ g, f = g + 1 := ⟨f - 1, by omega⟩
    rw [L_ZoneNodes_lookUp_5, if_neg (show ¬ (8 : Int32) < ni hp from fun q => absurd ((ni_lt (a := 8) (b := hp) (by decide) (by omega)).mp q) (by omega))]
    have e2 : (ni ty = 2) ↔ ty = 2 := ni_inj (a := ty) (by omega) (b := 2) (by decide)
    have hend := s_lookUp_end (N := N) (A := A) (X := X) (P := P) h ha h2 h3 hg hN
    by_cases c2 : ty = 2
    · rw [if_pos (e2.mpr c2), zr2 h, zb1_some]
      rw [zr2 h] at hend
      refine ⟨_, hend, ?_⟩
      simp only [look, if_pos c2, Sum.elim_inl]
    · rw [if_neg (fun q => c2 (e2.mp q)), zr2 h, zb1_some, s_aliasOf h ha hN, zb1_some, firstB_alF _ _ 8 0 (by decide)]
      rw [zr2 h] at hend
      cases hq : alF (cs (M (k + 1))) a 0 8 with
      | none =>
        show ∃ o, (if (0 : Int32) ≤ -1 then _ else _) = some o ∧ _
        rw [if_neg (by decide), zb1_some]
        refine ⟨_, hend, ?_⟩
        simp only [look, if_neg c2, hq, Sum.elim_inl]
      | some u =>
        have hu : u < 8 := by
          have := alF_lt _ _ 8 0 u hq
          omega
        obtain ⟨o, o1, o2⟩ := ih (hp + 1) g u (by omega) (by omega) hu
        refine ⟨o, ?_, ?_⟩
        · show (if (0 : Int32) ≤ ni u then _ else _) = some o
          rw [if_pos (Int32.not_lt.mp (ni_nonneg (a := u) (by omega))), ni_succ, o1]
        · simp only [o2, look, if_neg c2, hq]
theorem s_lookUp (h : zrec sh n k) {nm ty : Nat} (h1 : nm < 8) (h2 : 1 ≤ ty) (h3 : ty ≤ 4) (hg : okS (M (k + 1))) (hN : 100 < N) : f_ZoneNodes_lookUp N (zl sh n A X M P) (A + k) (ni nm) (ni ty) = some (look (cs (M (k + 1))) ty 9 nm) := by
  obtain ⟨o, o1, o2⟩ := s_look_L (N := N) (A := A) (X := X) (P := P) h h2 h3 hg hN 9 0 N nm (by omega) (by omega) h1
  unfold f_ZoneNodes_lookUp
  have o1' : L_ZoneNodes_lookUp_5 N (zl sh n A X M P) (A + k) (ni ty) N (ni nm) 0 = some o := o1
  rw [o1', ← o2]
  cases o with
  | inl r => rfl
  | inr u => rfl
end ZLOOK
