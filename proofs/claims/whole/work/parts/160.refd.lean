/-! the reference: its draft and its needs -/
def rdr (R : Nat → Nat → Int32) (i : Nat) (d : zD) : Prop := R 11 (4 * i) = ni d.1 ∧ R 11 (4 * i + 1) = ni d.2.1 ∧ R 11 (4 * i + 2) = ni d.2.2.1 ∧ R 11 (4 * i + 3) = ni d.2.2.2
theorem mixn_congr (mx : Int32 → Int32 → Int32) {g g' : Nat → Int32} : ∀ (m i : Nat) (h : Int32), (∀ j, i ≤ j → j < i + m → g j = g' j) → mixn mx g i m h = mixn mx g' i m h
  | 0, _, _, _ => by rw [mixn, mixn]
  | m + 1, i, h, e => by
    rw [mixn, mixn, e i (Nat.le_refl i) (by omega)]
    exact mixn_congr mx m (i + 1) _ fun j h1 h2 => e j (by omega) (by omega)
section ZREFD
variable {B : Nat} {Y : zh_T} {R : Nat → Nat → Int32} {N : Nat}
theorem k_d0 {i : Nat} {d : zD} (hi : i < 8) (h : rdr R i d) : zai (zR B Y R) (B + 11) (4 * ni i) = some (ni d.1) := by
  rw [show (4 : Int32) = ni 4 from rfl, ni_mul, ra11 (i := 4 * i) (by omega), h.1]
theorem k_d1 {i : Nat} {d : zD} (hi : i < 8) (h : rdr R i d) : zai (zR B Y R) (B + 11) (4 * ni i + 1) = some (ni d.2.1) := by
  rw [show (4 : Int32) = ni 4 from rfl, ni_mul, ni_succ, ra11 (i := 4 * i + 1) (by omega), h.2.1]
theorem k_d2 {i : Nat} {d : zD} (hi : i < 8) (h : rdr R i d) : zai (zR B Y R) (B + 11) (4 * ni i + 2) = some (ni d.2.2.1) := by
  rw [show (4 : Int32) = ni 4 from rfl, ni_mul, show (2 : Int32) = ni 2 from rfl, ni_add, ra11 (i := 4 * i + 2) (by omega), h.2.2.1]
theorem k_d3 {i : Nat} {d : zD} (hi : i < 8) (h : rdr R i d) : zai (zR B Y R) (B + 11) (4 * ni i + 3) = some (ni d.2.2.2) := by
  rw [show (4 : Int32) = ni 4 from rfl, ni_mul, show (3 : Int32) = ni 3 from rfl, ni_add, ra11 (i := 4 * i + 3) (by omega), h.2.2.2]
theorem k_line {i : Nat} {d : zD} (hi : i < 8) (h : rdr R i d) : f_ZoneNodesModel_line N (zR B Y R) B (ni i) = some (cdd d) := by
  unfold f_ZoneNodesModel_line cdd cd
  simp only [rr16, zb1_some, k_d0 hi h, k_d1 hi h, k_d2 hi h, k_d3 hi h]
  rw [show (1000 : Int32) = ni 1000 from rfl, show (100 : Int32) = ni 100 from rfl, show (10 : Int32) = ni 10 from rfl, ni_mul, ni_mul, ni_mul, ni_add, ni_add, ni_add]
theorem k_mixed (X : zh_T) (h x : Int32) : f_ZoneNodesModel_mixed N X h x = some (mixz h x) := rfl
theorem k_seal_L1 {c : Nat} {D : Nat → zD} (hc : R 0 14 = ni c) (hc4 : c ≤ 4) (hD : ∀ i, i < c → rdr R i (D i)) (t : Int32) : ∀ (m i f : Nat) (h : Int32), i + m = c → m < f → L_ZoneNodesModel_sealed_17 N (zR B Y R) B t f h (ni i) = some (mixn mixz (fun j => cdd (D j)) i m h) := by
  intro m
  induction m with
  | zero =>
    intro i f h h3 h4
    obtain ⟨g, rfl⟩ : ∃ g, f = g + 1 := ⟨f - 1, by omega⟩
    rw [L_ZoneNodesModel_sealed_17, rg14, zb1_some, hc, if_pos ((zle (i := i) (m := c) (by omega) (by omega)).mpr (by omega)), mixn]
  | succ m ih =>
    intro i f h h3 h4
    obtain ⟨g, rfl⟩ : ∃ g, f = g + 1 := ⟨f - 1, by omega⟩
    rw [L_ZoneNodesModel_sealed_17, rg14, zb1_some, hc, if_neg (fun q => absurd ((zle (i := i) (m := c) (by omega) (by omega)).mp q) (by omega)), rck, zb1_some, k_line (by omega) (hD i (by omega)), zb1_some, k_mixed, zb1_some, ni_succ, ih (i + 1) g _ (by omega) (by omega), mixn]
theorem k_seal_L2 {c : Nat} {D : Nat → zD} (hc : R 0 15 = ni c) (hc4 : c ≤ 4) (hD : ∀ i, i < c → rdr R (4 + i) (D i)) (t : Int32) : ∀ (m i f : Nat) (h : Int32), i + m = c → m < f → L_ZoneNodesModel_sealed_55 N (zR B Y R) B t f h (ni i) = some (mixn mixz (fun j => cdd (D j)) i m h) := by
  intro m
  induction m with
  | zero =>
    intro i f h h3 h4
    obtain ⟨g, rfl⟩ : ∃ g, f = g + 1 := ⟨f - 1, by omega⟩
    rw [L_ZoneNodesModel_sealed_55, rg15, zb1_some, hc, if_pos ((zle (i := i) (m := c) (by omega) (by omega)).mpr (by omega)), mixn]
  | succ m ih =>
    intro i f h h3 h4
    obtain ⟨g, rfl⟩ : ∃ g, f = g + 1 := ⟨f - 1, by omega⟩
    rw [L_ZoneNodesModel_sealed_55, rg15, zb1_some, hc, if_neg (fun q => absurd ((zle (i := i) (m := c) (by omega) (by omega)).mp q) (by omega)), rck, zb1_some, show (4 : Int32) = ni 4 from rfl, ni_add, k_line (by omega) (hD i (by omega)), zb1_some, k_mixed, zb1_some, ni_succ, ih (i + 1) g _ (by omega) (by omega), mixn]
theorem k_sealed {c d k : Nat} {Dn Dc : Nat → zD} (hk : k < 3) (hc : R 0 14 = ni c) (hc4 : c ≤ 4) (hd : R 0 15 = ni d) (hd4 : d ≤ 4) (hDn : ∀ i, i < c → rdr R i (Dn i)) (hDc : ∀ i, i < d → rdr R (4 + i) (Dc i)) (t : Int32) (hN : 100 < N) :
    f_ZoneNodesModel_sealed N (zR B Y R) B (ni k) t = some (mixz (mixn mixz (fun j => cdd (Dc j)) 0 d (mixz (mixn mixz (fun j => cdd (Dn j)) 0 c (mixz (R 10 k) (ni c))) (ni d))) t) := by
  unfold f_ZoneNodesModel_sealed
  rw [rr13, zb1_some, ra10 hk, zb1_some, rg14, zb1_some, hc, k_mixed, zb1_some, show (0 : Int32) = ni 0 from rfl, k_seal_L1 hc hc4 hDn t c 0 N _ (by omega) (by omega), zb1_some, rg15, zb1_some, hd, k_mixed, zb1_some, k_seal_L2 hd hd4 hDc t d 0 N _ (by omega) (by omega), zb1_some, k_mixed, zb1_some]
/-- the records of a name, or of a name and type -/
def inTy (nm t : Nat) (q : Nat) : Bool := decide (t = 0) || decide ((q - 32 * nm) / 8 = t - 1)
theorem k_count_L {nm t : Nat} (hnm : nm < 8) (ht : t ≤ 4) (hb : b01 (R 4) 768) : ∀ (m k f v : Nat), 32 * nm ≤ k → k + m = 32 * nm + 32 → m < f → L_ZoneNodesModel_count_8 N (zR B Y R) B (ni nm) (ni t) f (ni v) (ni k) = some (ni (v + cnt (fun q => rb (R 4) q && inTy nm t q) k m)) := by
  intro m
  induction m with
  | zero =>
    intro k f v h2 h3 h4
    obtain ⟨g, rfl⟩ : ∃ g, f = g + 1 := ⟨f - 1, by omega⟩
    rw [L_ZoneNodesModel_count_8, show (32 : Int32) = ni 32 from rfl, ni_mul, ni_add, if_pos ((zle (i := k) (m := 32 * nm + 32) (by omega) (by omega)).mpr (by omega))]
    rfl
  | succ m ih =>
    intro k f v h2 h3 h4
    obtain ⟨g, rfl⟩ : ∃ g, f = g + 1 := ⟨f - 1, by omega⟩
    have e0 : (ni t = 0) ↔ t = 0 := ni_inj (a := t) (by omega) (b := 0) (by decide)
    rw [L_ZoneNodesModel_count_8, show (32 : Int32) = ni 32 from rfl, ni_mul, ni_add, if_neg (fun q => absurd ((zle (i := k) (m := 32 * nm + 32) (by omega) (by omega)).mp q) (by omega)), rr7, zb1_some, ra4 (i := k) (by omega), zb1_some, Int32.add_zero, ni_succ, ni_succ, ih (k + 1) g v (by omega) (by omega) (by omega), ih (k + 1) g (v + 1) (by omega) (by omega) (by omega), cnt]
    cases hr : rb (R 4) k with
    | false =>
      rw [if_pos ((rb_zero hb (by omega)).mpr hr), Bool.false_and, if_neg (by decide), Nat.zero_add]
    | true =>
      rw [if_neg (fun q => by rw [(rb_zero hb (by omega)).mp q] at hr; cases hr), Bool.true_and]
      unfold inTy
      by_cases h0 : t = 0
      · rw [if_pos (e0.mpr h0), decide_eq_true h0, Bool.true_or, if_pos rfl, Nat.add_assoc]
      · rw [if_neg (fun q => h0 (e0.mp q)), decide_eq_false h0, Bool.false_or, ni_sub (a := k) (b := 32 * nm) h2, show (8 : Int32) = ni 8 from rfl, ni_div (by omega) (by decide), ni_pred (a := t) (by omega)]
        by_cases h1 : (k - 32 * nm) / 8 = t - 1
        · rw [if_pos (by rw [h1]), decide_eq_true h1, if_pos rfl, Nat.add_assoc]
        · rw [if_neg (fun q => h1 ((ni_inj (by omega) (by omega)).mp q)), decide_eq_false h1, if_neg (by decide), Nat.zero_add]
theorem cnt_ty (s : Nat → Bool) {nm t : Nat} (h1 : 1 ≤ t) (h4 : t ≤ 4) : cnt (fun q => s q && inTy nm t q) (32 * nm) 32 = cnt s (32 * nm + 8 * (t - 1)) 8 := by
  have row : ∀ r, r < 4 → cnt (fun q => s q && inTy nm t q) (32 * nm + 8 * r) 8 = if r = t - 1 then cnt s (32 * nm + 8 * r) 8 else 0 := by
    intro r hr
    by_cases e : r = t - 1
    · rw [if_pos e]
      apply cnt_congr
      intro q q1 q2
      show (s q && inTy nm t q) = s q
      unfold inTy
      rw [decide_eq_true (show (q - 32 * nm) / 8 = t - 1 by omega), Bool.or_true, Bool.and_true]
    · rw [if_neg e]
      apply (cnt_zero 8 _).mpr
      intro q q1 q2
      show (s q && inTy nm t q) = false
      unfold inTy
      rw [decide_eq_false (show ¬ (q - 32 * nm) / 8 = t - 1 by omega), decide_eq_false (show ¬ t = 0 by omega), Bool.or_false, Bool.and_false]
  have r0 := row 0 (by decide)
  have r1 := row 1 (by decide)
  have r2 := row 2 (by decide)
  have r3 := row 3 (by decide)
  have c1 : cnt (fun q => s q && inTy nm t q) (32 * nm) 32 = cnt (fun q => s q && inTy nm t q) (32 * nm) 8 + cnt (fun q => s q && inTy nm t q) (32 * nm + 8) 24 := cnt_add _ 8 (32 * nm) 24
  have c2 : cnt (fun q => s q && inTy nm t q) (32 * nm + 8) 24 = cnt (fun q => s q && inTy nm t q) (32 * nm + 8) 8 + cnt (fun q => s q && inTy nm t q) (32 * nm + 16) 16 := cnt_add _ 8 (32 * nm + 8) 16
  have c3 : cnt (fun q => s q && inTy nm t q) (32 * nm + 16) 16 = cnt (fun q => s q && inTy nm t q) (32 * nm + 16) 8 + cnt (fun q => s q && inTy nm t q) (32 * nm + 24) 8 := cnt_add _ 8 (32 * nm + 16) 8
  rw [show 32 * nm + 8 * 0 = 32 * nm by omega] at r0
  rw [show 32 * nm + 8 * 1 = 32 * nm + 8 by omega] at r1
  rw [show 32 * nm + 8 * 2 = 32 * nm + 16 by omega] at r2
  rw [show 32 * nm + 8 * 3 = 32 * nm + 24 by omega] at r3
  rw [c1, c2, c3, r0, r1, r2, r3]
  have ht : t = 1 ∨ t = 2 ∨ t = 3 ∨ t = 4 := by omega
  rcases ht with rfl | rfl | rfl | rfl <;> simp
theorem k_count0 {nm : Nat} (hnm : nm < 8) (hb : b01 (R 4) 768) (hN : 300 < N) : f_ZoneNodesModel_count N (zR B Y R) B (ni nm) 0 = some (ni (cnt (rb (R 4)) (32 * nm) 32)) := by
  unfold f_ZoneNodesModel_count
  have e := k_count_L (N := N) (B := B) (Y := Y) (t := 0) hnm (by decide) hb 32 (32 * nm) N 0 (Nat.le_refl _) (by omega) (by omega)
  rw [Nat.zero_add, cnt_congr (t := rb (R 4)) 32 (32 * nm) (fun q _ _ => by show (rb (R 4) q && inTy nm 0 q) = rb (R 4) q; unfold inTy; simp)] at e
  have e' : L_ZoneNodesModel_count_8 N (zR B Y R) B (ni nm) 0 N 0 (ni (32 * nm)) = some (ni (cnt (rb (R 4)) (32 * nm) 32)) := e
  rw [show (32 : Int32) = ni 32 from rfl, ni_mul, e', zb1_some]
theorem k_count {nm t : Nat} (hnm : nm < 8) (h1 : 1 ≤ t) (ht : t ≤ 4) (hb : b01 (R 4) 768) (hN : 300 < N) : f_ZoneNodesModel_count N (zR B Y R) B (ni nm) (ni t) = some (ni (cnt (rb (R 4)) (32 * nm + 8 * (t - 1)) 8)) := by
  unfold f_ZoneNodesModel_count
  have e := k_count_L (N := N) (B := B) (Y := Y) (t := t) hnm ht hb 32 (32 * nm) N 0 (Nat.le_refl _) (by omega) (by omega)
  rw [Nat.zero_add, cnt_ty _ h1 ht] at e
  have e' : L_ZoneNodesModel_count_8 N (zR B Y R) B (ni nm) (ni t) N 0 (ni (32 * nm)) = some (ni (cnt (rb (R 4)) (32 * nm + 8 * (t - 1)) 8)) := e
  rw [show (32 : Int32) = ni 32 from rfl, ni_mul, e', zb1_some]
theorem ni_le0 {x : Nat} (h : x < 65536) : (ni x ≤ 0) ↔ x = 0 := by
  rw [show (0 : Int32) = ni 0 from rfl, ni_le (by omega) (by decide)]
  omega
theorem ni_eq0 {x : Nat} (h : x < 65536) : (ni x = 0) ↔ x = 0 := ni_inj (a := x) (b := 0) (by omega) (by decide)
theorem k_meets {i : Nat} {d : zD} (hi : i < 8) (h : rdr R i d) (hd : dok 5 d) (hb : b01 (R 4) 768) (hN : 300 < N) : f_ZoneNodesModel_meets N (zR B Y R) B (ni i) = some (if ansN (rb (R 4)) d = 0 then 1 else 0) := by
  obtain ⟨a0, a1, a2, a3, a4⟩ := hd
  unfold f_ZoneNodesModel_meets ansN
  simp only [rr16, zb1_some, k_d0 hi h, k_d1 hi h, k_d2 hi h, rck, k_count0 a1 hb hN, k_count a1 a2 a3 hb hN]
  have l1 := cnt_le (rb (R 4)) 32 (32 * d.2.1)
  have l2 := cnt_le (rb (R 4)) 8 (32 * d.2.1 + 8 * (d.2.2.1 - 1))
  generalize cnt (rb (R 4)) (32 * d.2.1) 32 = x at l1 ⊢
  generalize cnt (rb (R 4)) (32 * d.2.1 + 8 * (d.2.2.1 - 1)) 8 = y at l2 ⊢
  have e0 : (ni d.1 = 0) ↔ d.1 = 0 := ni_inj (a := d.1) (by omega) (b := 0) (by decide)
  have e1 : (ni d.1 = 1) ↔ d.1 = 1 := ni_inj (a := d.1) (by omega) (b := 1) (by decide)
  have e2 : (ni d.1 = 2) ↔ d.1 = 2 := ni_inj (a := d.1) (by omega) (b := 2) (by decide)
  have e4 : (ni d.1 = 4) ↔ d.1 = 4 := ni_inj (a := d.1) (by omega) (b := 4) (by decide)
  have x0 := ni_le0 (x := x) (by omega)
  have x1 := ni_eq0 (x := x) (by omega)
  have y0 := ni_le0 (x := y) (by omega)
  have y1 := ni_eq0 (x := y) (by omega)
  have hc : d.1 = 0 ∨ d.1 = 1 ∨ d.1 = 2 ∨ d.1 = 3 ∨ d.1 = 4 := by omega
  simp only [e0, e1, e2, e4, x0, x1, y0, y1]
  rcases hc with c | c | c | c | c <;> simp [c] <;> by_cases hx : x = 0 <;> by_cases hy : y = 0 <;> simp [hx, hy]
end ZREFD
