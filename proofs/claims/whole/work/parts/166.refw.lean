/-! the reference: a query -/
def encO (o : Option Nat) : Int32 := match o with
  | some u => ni u
  | none => -1
section ZREFW
variable {B : Nat} {Y : zh_T} {R : Nat → Nat → Int32} {N : Nat}
theorem k_alias_L {x ty a : Nat} (hx : x < 3) (ha : a < 8) (h3 : ty ≤ 4) (hb : b01 (R 4) 768) (w5 : Int32) : ∀ (m v f : Nat) (o : Option Nat), v + m = 8 → m < f →
    L_ZoneNodesModel_query_72 N (zR B Y R) B (ni x) (ni ty) (ni a) w5 f (encO o) (ni v) = some (encO (if ty = 2 then o else alL (fun q => rb (R 4) (256 * x + q)) a v m o)) := by
  intro m
  induction m with
  | zero =>
    intro v f o h4 h5
    obtain ⟨g, rfl⟩ : ∃ g, f = g + 1 := ⟨f - 1, by omega⟩
    rw [L_ZoneNodesModel_query_72, if_pos (show (8 : Int32) ≤ ni v from (ni_le (a := 8) (b := v) (by decide) (by omega)).mpr (by omega))]
    by_cases h2 : ty = 2
    · rw [if_pos h2]
    · rw [if_neg h2, alL]
  | succ m ih =>
    intro v f o h4 h5
    obtain ⟨g, rfl⟩ : ∃ g, f = g + 1 := ⟨f - 1, by omega⟩
    have e2 : (ni ty = 2) ↔ ty = 2 := ni_inj (a := ty) (by omega) (b := 2) (by decide)
    have hp : f_ZoneNodesModel_place N (zR B Y R) (ni a) 2 (ni v) = some (ni (32 * a + 8 + v)) := by
      have h := k_place (N := N) (X := zR B Y R) (a := a) (t := 2) (v := v) (by decide)
      unfold pl at h
      exact h
    rw [L_ZoneNodesModel_query_72, if_neg (show ¬ (8 : Int32) ≤ ni v from fun q => absurd ((ni_le (a := 8) (b := v) (by decide) (by omega)).mp q) (by omega)), ni_succ]
    by_cases h2 : ty = 2
    · rw [if_pos (e2.mpr h2), ih (v + 1) g o (by omega) (by omega), if_pos h2, if_pos h2]
    · rw [if_neg (fun q => h2 (e2.mp q)), rr7, zb1_some, hp, zb1_some, show (256 : Int32) = ni 256 from rfl, ni_mul, ni_add, ra4 (i := 256 * x + (32 * a + 8 + v)) (by omega), zb1_some, ih (v + 1) g o (by omega) (by omega), show ni v = encO (some v) from rfl, ih (v + 1) g (some v) (by omega) (by omega), if_neg h2, if_neg h2, if_neg h2, alL]
      cases hr : rb (R 4) (256 * x + (32 * a + 8 + v)) with
      | false =>
        rw [if_pos ((rb_zero hb (by omega)).mpr hr)]
        rw [if_neg (show ¬ (false = true) by decide)]
      | true =>
        rw [if_neg (fun q => by rw [(rb_zero hb (by omega)).mp q] at hr; cases hr)]
        rw [if_pos rfl]
theorem k_look_L {x ty : Nat} (hx : x < 3) (h2 : 1 ≤ ty) (h3 : ty ≤ 4) (hb : b01 (R 4) 768) (hal : ∀ a, a < 8 → cnt (fun q => rb (R 4) (256 * x + q)) (32 * a + 8) 8 ≤ 1) (hN : 300 < N) : ∀ (m hp f a : Nat), hp + m = 9 → m < f → a < 8 →
    ∃ o, L_ZoneNodesModel_query_59 N (zR B Y R) B (ni x) (ni ty) f (ni a) (ni hp) = some o ∧ Sum.elim (fun r => r) (fun _ => 200) o = look (fun q => rb (R 4) (256 * x + q)) ty m a := by
  intro m
  induction m with
  | zero =>
    intro hp f a h4 h5 ha
    obtain ⟨g, rfl⟩ : ∃ g, f = g + 1 := ⟨f - 1, by omega⟩
    refine ⟨.inr (), ?_, rfl⟩
    rw [L_ZoneNodesModel_query_59, if_pos (show (9 : Int32) ≤ ni hp from (ni_le (a := 9) (b := hp) (by decide) (by omega)).mpr (by omega))]
  | succ m ih =>
    intro hp f a h4 h5 ha
    obtain ⟨g, rfl⟩ : ∃ g, f = g + 1 := ⟨f - 1, by omega⟩
    have h72 := k_alias_L (N := N) (B := B) (Y := Y) (ty := ty) hx ha h3 hb (ni hp) 8 0 N none (by omega) (by omega)
    have h72' : L_ZoneNodesModel_query_72 N (zR B Y R) B (ni x) (ni ty) (ni a) (ni hp) N (-1) 0 = some (encO (if ty = 2 then none else alF (fun q => rb (R 4) (256 * x + q)) a 0 8)) := by
      rw [← alL_alF _ a 8 0 (hal a ha)]
      exact h72
    have s1 : f_ZoneNodesModel_shown N (zR B Y R) B (ni x) (ni a) 0 32 = some (ni (cnt (fun q => rb (R 4) (256 * x + q)) (32 * a) 32)) := by
      have h := k_shown (N := N) (B := B) (Y := Y) (x := x) (nm := a) (fr := 0) (cl := 32) hx (by omega) hb hN
      have e := cnt_shift (rb (R 4)) 32 (32 * a) (256 * x)
      rw [e]
      exact h
    have s2 : f_ZoneNodesModel_shown N (zR B Y R) B (ni x) (ni a) (8 * (ni ty - 1)) 8 = some (ni (cnt (fun q => rb (R 4) (256 * x + q)) (32 * a + 8 * (ty - 1)) 8)) := by
      have h := k_shown (N := N) (B := B) (Y := Y) (x := x) (nm := a) (fr := 8 * (ty - 1)) (cl := 8) hx (by omega) hb hN
      have e := cnt_shift (rb (R 4)) 8 (32 * a + 8 * (ty - 1)) (256 * x)
      rw [e, ← Nat.add_assoc, ni_pred h2, show (8 : Int32) = ni 8 from rfl, ni_mul]
      exact h
    have l1 := cnt_le (fun q => rb (R 4) (256 * x + q)) 32 (32 * a)
    have c1 := ni_eq0 (x := cnt (fun q => rb (R 4) (256 * x + q)) (32 * a) 32) (by omega)
    rw [L_ZoneNodesModel_query_59, if_neg (show ¬ (9 : Int32) ≤ ni hp from fun q => absurd ((ni_le (a := 9) (b := hp) (by decide) (by omega)).mp q) (by omega)), h72', zb1_some]
    cases hq : (if ty = 2 then none else alF (fun q => rb (R 4) (256 * x + q)) a 0 8) with
    | none =>
      rw [if_neg (show ¬ (0 : Int32) ≤ encO none by decide), rck, zb1_some, s1, zb1_some, zb1_some, s2, zb1_some]
      by_cases hz : cnt (fun q => rb (R 4) (256 * x + q)) (32 * a) 32 = 0
      · refine ⟨.inl 300, by rw [if_pos (c1.mpr hz)], ?_⟩
        simp only [look, hq, Sum.elim_inl, if_pos hz]
      · refine ⟨_, by rw [if_neg (fun q => hz (c1.mp q))], ?_⟩
        simp only [look, hq, Sum.elim_inl, if_neg hz]
    | some u =>
      have hu : u < 8 := by
        by_cases h9 : ty = 2
        · rw [if_pos h9] at hq
          cases hq
        · rw [if_neg h9] at hq
          have := alF_lt _ _ 8 0 u hq
          omega
      obtain ⟨o, o1, o2⟩ := ih (hp + 1) g u (by omega) (by omega) hu
      refine ⟨o, ?_, ?_⟩
      · rw [if_pos (show (0 : Int32) ≤ encO (some u) from Int32.not_lt.mp (ni_nonneg (a := u) (by omega))), ni_succ]
        exact o1
      · simp only [o2, look, hq]
theorem k_look {x ty nm : Nat} (hx : x < 3) (h1 : nm < 8) (h2 : 1 ≤ ty) (h3 : ty ≤ 4) (hb : b01 (R 4) 768) (hal : ∀ a, a < 8 → cnt (fun q => rb (R 4) (256 * x + q)) (32 * a + 8) 8 ≤ 1) (hN : 300 < N) : (zbs (L_ZoneNodesModel_query_59 N (zR B Y R) B (ni x) (ni ty) N (ni nm) 0) (fun r0 => some r0) fun _ => some (200 : Int32)) = some (look (fun q => rb (R 4) (256 * x + q)) ty 9 nm) := by
  obtain ⟨o, o1, o2⟩ := k_look_L (N := N) (B := B) (Y := Y) hx h2 h3 hb hal hN 9 0 N nm (by omega) (by omega) h1
  have o1' : L_ZoneNodesModel_query_59 N (zR B Y R) B (ni x) (ni ty) N (ni nm) 0 = some o := o1
  rw [o1', ← o2]
  cases o with
  | inl r => rfl
  | inr u => rfl
end ZREFW
