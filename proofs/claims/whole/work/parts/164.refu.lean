/-! the reference: a new version is written -/
def wrM (R : Nat → Nat → Int32) (e : Nat) (g : Nat → Int32) (d : Int32) : Nat → Nat → Int32 := zu (zu R 14 g) 15 (upd (R 15) e d)
theorem wrM_step (R : Nat → Nat → Int32) (e : Nat) (g g' : Nat → Int32) (d d' : Int32) : wrM (wrM R e g d) e g' d' = wrM R e g' d' := by
  unfold wrM
  have h1 : zu (zu R 14 g) 15 (upd (R 15) e d) 15 = upd (R 15) e d := zu_same _ _ _
  rw [h1, upd_upd, zu_comm (by decide : (15 : Nat) ≠ 14), zu_zu, zu_zu]
theorem wrM_id (R : Nat → Nat → Int32) (e : Nat) : wrM R e (R 14) (R 15 e) = R := by
  unfold wrM
  have h1 : upd (R 15) e (R 15 e) = R 15 := by
    funext q
    unfold upd
    by_cases h : q = e
    · rw [if_pos h, h]
    · rw [if_neg h]
  rw [h1, zu_id, zu_id]
def dfS (s t : Nat → Bool) (q : Nat) : Bool := (s q && !t q) || (!s q && t q)
theorem dfS_iff {g h : Nat → Int32} {n m q : Nat} (hg : b01 g n) (hh : b01 h m) (h1 : q < n) (h2 : q < m) : (g q = h q) ↔ dfS (rb g) (rb h) q = false := by
  unfold dfS rb
  rcases hg q h1 with a | a <;> rcases hh q h2 with b | b <;> rw [a, b] <;> decide
/-- rows 12, 13 and 15 go up by one place -/
def R3 (R : Nat → Nat → Int32) (i : Nat) : Nat → Nat → Int32 := fun k => if k = 12 ∨ k = 13 ∨ k = 15 then shI (R k) i 4 else R k
def R3s (R : Nat → Nat → Int32) (j : Nat) : Nat → Nat → Int32 := fun k => if k = 12 ∨ k = 13 ∨ k = 15 then upd (R k) j (R k (j + 1)) else R k
theorem R3s_chain (R : Nat → Nat → Int32) (j : Nat) : zu (zu (zu R 12 (upd (R 12) j (R 12 (j + 1)))) 13 (upd (R 13) j (R 13 (j + 1)))) 15 (upd (R 15) j (R 15 (j + 1))) = R3s R j := by
  funext k
  unfold zu R3s
  by_cases h1 : k = 15
  · subst h1; rfl
  by_cases h2 : k = 13
  · subst h2; rfl
  by_cases h3 : k = 12
  · subst h3; rfl
  rw [if_neg h1, if_neg h2, if_neg h3, if_neg (by omega)]
theorem R3_nil (R : Nat → Nat → Int32) : R3 R 4 = R := by
  funext k
  unfold R3
  split
  · funext q
    exact if_neg (by omega)
  · rfl
theorem R3_step (R : Nat → Nat → Int32) {j : Nat} (h : j < 4) : R3 (R3s R j) (j + 1) = R3 R j := by
  funext k
  unfold R3 R3s
  by_cases hk : k = 12 ∨ k = 13 ∨ k = 15
  · rw [if_pos hk, if_pos hk, if_pos hk]
    funext q
    unfold shI upd
    by_cases e1 : q = j
    · subst e1
      rw [if_neg (by omega), if_pos rfl, if_pos ⟨Nat.le_refl q, h⟩]
    · by_cases e2 : j + 1 ≤ q ∧ q < 4
      · rw [if_pos e2, if_neg (by omega), if_pos (by omega)]
      · rw [if_neg e2, if_neg e1, if_neg (by omega)]
  · rw [if_neg hk, if_neg hk, if_neg hk]
section ZREFU
variable {B : Nat} {Y : zh_T} {R : Nat → Nat → Int32} {N : Nat}
theorem k_same_L (w4 : Int32) : ∀ (m i f : Nat) (sm : Int32), (sm = 0 ∨ sm = 1) → i + m = 256 → m < f → L_ZoneNodesModel_update_102 N (zR B Y R) B w4 f sm (ni i) = some (pif (sm = 1 ∧ ∀ j, i ≤ j → j < 256 → R 16 j = R 4 j) 1 0) := by
  intro m
  induction m with
  | zero =>
    intro i f sm hs h3 h4
    obtain ⟨g, rfl⟩ : ∃ g, f = g + 1 := ⟨f - 1, by omega⟩
    rw [L_ZoneNodesModel_update_102, if_pos (show (256 : Int32) ≤ ni i from (ni_le (a := 256) (b := i) (by decide) (by omega)).mpr (by omega))]
    rcases hs with rfl | rfl
    · rw [pif_neg (fun q => absurd q.1 (by decide))]
    · rw [pif_pos ⟨rfl, fun j h1 h2 => by omega⟩]
  | succ m ih =>
    intro i f sm hs h3 h4
    obtain ⟨g, rfl⟩ : ∃ g, f = g + 1 := ⟨f - 1, by omega⟩
    rw [L_ZoneNodesModel_update_102, if_neg (show ¬ (256 : Int32) ≤ ni i from fun q => absurd ((ni_le (a := 256) (b := i) (by decide) (by omega)).mp q) (by omega)), rr23, zb1_some, ra16 (i := i) (by omega), zb1_some, rr7, zb1_some, ra4 (i := i) (by omega), zb1_some, ni_succ, ih (i + 1) g 0 (Or.inl rfl) (by omega) (by omega), ih (i + 1) g 1 (Or.inr rfl) (by omega) (by omega), pif_neg (fun q => absurd q.1 (by decide))]
    rcases hs with rfl | rfl
    · rw [if_pos rfl, pif_neg (fun q => absurd q.1 (by decide))]
    · rw [if_neg (by decide)]
      by_cases e : R 16 i = R 4 i
      · rw [if_pos e]
        congr 1
        apply pif_congr
        constructor
        · rintro ⟨-, q⟩
          refine ⟨rfl, fun j h1 h2 => ?_⟩
          by_cases ej : j = i
          · subst ej
            exact e
          · exact q j (by omega) h2
        · rintro ⟨-, q⟩
          exact ⟨rfl, fun j h1 h2 => q j (by omega) h2⟩
      · rw [if_neg e, pif_neg (fun q => e (q.2 i (Nat.le_refl i) (by omega)))]
theorem k_write_L {e : Nat} (he : e < 6) : ∀ (m i f v : Nat) (R : Nat → Nat → Int32), R 0 18 = ni e → R 15 e = ni v → b01 (R 16) 256 → b01 (R 4) 768 → i + m = 256 → m < f →
    L_ZoneNodesModel_write_45 N B f (zR B Y R) (ni i) = some ((), zR B Y (wrM R e (cpR (R 14) (R 16) (256 * e) 0 i 256) (ni (v + cnt (dfS (rb (R 16)) (rb (R 4))) i m)))) := by
  intro m
  induction m with
  | zero =>
    intro i f v R h18 hv hb1 hb2 h3 h4
    obtain ⟨g, rfl⟩ : ∃ g, f = g + 1 := ⟨f - 1, by omega⟩
    have ei : i = 256 := by omega
    subst ei
    have e2 : ni (v + cnt (dfS (rb (R 16)) (rb (R 4))) 256 0) = R 15 e := by rw [hv]; rfl
    rw [L_ZoneNodesModel_write_45, if_pos (show (256 : Int32) ≤ ni 256 from Int32.le_refl _), cpR_end, e2, wrM_id]
  | succ m ih =>
    intro i f v R h18 hv hb1 hb2 h3 h4
    obtain ⟨g, rfl⟩ : ∃ g, f = g + 1 := ⟨f - 1, by omega⟩
    rw [L_ZoneNodesModel_write_45, if_neg (show ¬ (256 : Int32) ≤ ni i from fun q => absurd ((ni_le (a := 256) (b := i) (by decide) (by omega)).mp q) (by omega)), rr21, zb1_some, rg18, zb1_some, h18, rr23, zb1_some, ra16 (i := i) (by omega), zb1_some, show (256 : Int32) = ni 256 from rfl, ni_mul, ni_add, rs14 (i := 256 * e + i) (by omega) (hb1 i (by omega)), zb1_some]
    generalize hR1 : zu R 14 (upd (R 14) (256 * e + i) (R 16 i)) = R1
    have r0 : R1 0 = R 0 := by rw [← hR1, zu_ne _ (by decide : (0 : Nat) ≠ 14)]
    have r15 : R1 15 = R 15 := by rw [← hR1, zu_ne _ (by decide : (15 : Nat) ≠ 14)]
    have r16 : R1 16 = R 16 := by rw [← hR1, zu_ne _ (by decide : (16 : Nat) ≠ 14)]
    have r4 : R1 4 = R 4 := by rw [← hR1, zu_ne _ (by decide : (4 : Nat) ≠ 14)]
    have h18' : R1 0 18 = ni e := by rw [r0, h18]
    have hv' : R1 15 e = ni v := by rw [r15, hv]
    rw [rr22, zb1_some, rg18, zb1_some, h18', ra15 he, zb1_some, hv', rr23, zb1_some, ra16 (i := i) (by omega), zb1_some, rr7, zb1_some, ra4 (i := i) (by omega), zb1_some, r16, r4, rs15 he, zb1_some, rs15 he, zb1_some, Int32.add_zero, ni_succ, ni_succ]
    have nx : ∀ d : Nat, L_ZoneNodesModel_write_45 N B g (zR B Y (zu R1 15 (upd (R1 15) e (ni d)))) (ni (i + 1)) = some ((), zR B Y (wrM R e (cpR (R 14) (R 16) (256 * e) 0 i 256) (ni (d + cnt (dfS (rb (R 16)) (rb (R 4))) (i + 1) m)))) := by
      intro d
      have hst : zu R1 15 (upd (R1 15) e (ni d)) = wrM R e (upd (R 14) (256 * e + i) (R 16 i)) (ni d) := by
        rw [r15, ← hR1]
        rfl
      rw [hst]
      have h1 := ih (i + 1) g d (wrM R e (upd (R 14) (256 * e + i) (R 16 i)) (ni d)) h18 (by
        show upd (R 15) e (ni d) e = ni d
        exact upd_eq _ _ _) hb1 hb2 (by omega) (by omega)
      rw [wrM_step] at h1
      refine h1.trans ?_
      show some ((), zR B Y (wrM R e (cpR (upd (R 14) (256 * e + i) (R 16 i)) (R 16) (256 * e) 0 (i + 1) 256) (ni (d + cnt (dfS (rb (R 16)) (rb (R 4))) (i + 1) m)))) = _
      have h2 := cpR_step (show i < 256 by omega) (R 14) (R 16) (256 * e) 0
      rw [Nat.zero_add] at h2
      rw [h2]
    rw [nx, nx, cnt]
    by_cases hq : R 16 i = R 4 i
    · rw [if_pos hq, (dfS_iff hb1 hb2 (by omega) (by omega)).mp hq, if_neg (by decide), Nat.zero_add]
    · have hd : dfS (rb (R 16)) (rb (R 4)) i = true := by
        cases hh : dfS (rb (R 16)) (rb (R 4)) i with
        | true => rfl
        | false => exact absurd ((dfS_iff hb1 hb2 (by omega) (by omega)).mpr hh) hq
      rw [if_neg hq, hd, if_pos rfl, Nat.add_assoc]
theorem k_shift3_L : ∀ (m j f : Nat) (R : Nat → Nat → Int32), b01 (R 13) 6 → j + m = 4 → m < f → L_ZoneNodesModel_install_69 N B f (zR B Y R) (ni j) = some ((), zR B Y (R3 R j)) := by
  intro m
  induction m with
  | zero =>
    intro j f R hb h3 h4
    obtain ⟨g, rfl⟩ : ∃ g, f = g + 1 := ⟨f - 1, by omega⟩
    have ej : j = 4 := by omega
    subst ej
    rw [L_ZoneNodesModel_install_69, if_pos (show (4 : Int32) ≤ ni 4 from Int32.le_refl _), R3_nil]
  | succ m ih =>
    intro j f R hb h3 h4
    obtain ⟨g, rfl⟩ : ∃ g, f = g + 1 := ⟨f - 1, by omega⟩
    have j1 : j + 1 < 6 := by omega
    have j0 : j < 6 := by omega
    rw [L_ZoneNodesModel_install_69, if_neg (show ¬ (4 : Int32) ≤ ni j from fun q => absurd ((ni_le (a := 4) (b := j) (by decide) (by omega)).mp q) (by omega)), ni_succ]
    rw [rr19, zb1_some, zb1_some, ra12 j1, zb1_some, rs12 j0, zb1_some]
    rw [rr20, zb1_some, zb1_some, ra13 j1, zb1_some, rs13 j0 (show _ from ?h13), zb1_some]
    rw [rr22, zb1_some, zb1_some, ra15 j1, zb1_some, rs15 j0, zb1_some]
    case h13 => exact hb (j + 1) j1
    have e := ih (j + 1) g (R3s R j) (by
      intro i hi
      show upd (R 13) j (R 13 (j + 1)) i = 0 ∨ upd (R 13) j (R 13 (j + 1)) i = 1
      exact b01_upd hb (hb (j + 1) j1) i hi) (by omega) (by omega)
    rw [R3_step R (by omega), ← R3s_chain] at e
    exact e
end ZREFU
