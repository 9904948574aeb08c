/-! the reference: a FETCH, a query -/
def sumD (dv : Nat → Nat) : Nat → Nat → Nat
  | _, 0 => 0
  | i, m + 1 => dv i + sumD dv (i + 1) m
def rps (s sr : Int32) (n : Nat) : Nat → Nat → List zRm
  | _, 0 => []
  | p, m + 1 => (5, s, sr, ni p, ni (min 4 (n - 4 * p)), 0, if 4 * p + 4 < n then 0 else 1) :: rps s sr n (p + 1) m
theorem rps_len (s sr : Int32) (n : Nat) : ∀ (m p : Nat), (rps s sr n p m).length = m
  | 0, _ => rfl
  | m + 1, p => by
    unfold rps
    rw [List.length_cons, rps_len s sr n m (p + 1)]
section ZREFV
variable {B : Nat} {Y : zh_T} {R : Nat → Nat → Int32} {N : Nat}
theorem k_from_no {c : Nat} {has sr : Int32} (hc : R 0 18 = ni c) (hc6 : c ≤ 6) (hno : has = 0 ∨ ∀ j, j < c → R 12 j ≠ sr) : ∀ (m i f : Nat) (x : Int32), i + m = c → m < f → L_ZoneNodesModel_itemsFor_5 N (zR B Y R) B has sr f x (ni i) = some x := by
  intro m
  induction m with
  | zero =>
    intro i f x h3 h4
    obtain ⟨g, rfl⟩ : ∃ g, f = g + 1 := ⟨f - 1, by omega⟩
    rw [L_ZoneNodesModel_itemsFor_5, rg18, zb1_some, hc, if_pos ((zle (i := i) (m := c) (by omega) (by omega)).mpr (by omega))]
  | succ m ih =>
    intro i f x h3 h4
    obtain ⟨g, rfl⟩ : ∃ g, f = g + 1 := ⟨f - 1, by omega⟩
    rw [L_ZoneNodesModel_itemsFor_5, rg18, zb1_some, hc, if_neg (fun q => absurd ((zle (i := i) (m := c) (by omega) (by omega)).mp q) (by omega)), rr19, zb1_some, ra12 (i := i) (by omega), zb1_some, ni_succ, ih (i + 1) g x (by omega) (by omega)]
    by_cases h0 : has = 0
    · rw [if_pos h0]
    · rw [if_neg h0, if_neg ((hno.resolve_left h0) i (by omega))]
theorem k_from_in {c k : Nat} {has sr : Int32} (hc : R 0 18 = ni c) (hc6 : c ≤ 6) (hh : has ≠ 0) (hk : k < c) (hkk : R 12 k = sr) (hu : ∀ j, j < c → j ≠ k → R 12 j ≠ sr) : ∀ (m i f : Nat) (x : Int32), i + m = c → m < f → L_ZoneNodesModel_itemsFor_5 N (zR B Y R) B has sr f x (ni i) = some (if i ≤ k then ni k else x) := by
  intro m
  induction m with
  | zero =>
    intro i f x h3 h4
    obtain ⟨g, rfl⟩ : ∃ g, f = g + 1 := ⟨f - 1, by omega⟩
    rw [L_ZoneNodesModel_itemsFor_5, rg18, zb1_some, hc, if_pos ((zle (i := i) (m := c) (by omega) (by omega)).mpr (by omega)), if_neg (by omega)]
  | succ m ih =>
    intro i f x h3 h4
    obtain ⟨g, rfl⟩ : ∃ g, f = g + 1 := ⟨f - 1, by omega⟩
    rw [L_ZoneNodesModel_itemsFor_5, rg18, zb1_some, hc, if_neg (fun q => absurd ((zle (i := i) (m := c) (by omega) (by omega)).mp q) (by omega)), if_neg hh, rr19, zb1_some, ra12 (i := i) (by omega), zb1_some, ni_succ, ih (i + 1) g x (by omega) (by omega), ih (i + 1) g (ni i) (by omega) (by omega)]
    by_cases e : i = k
    · subst e
      rw [if_pos hkk, if_neg (by omega), if_pos (Nat.le_refl i)]
    · rw [if_neg (hu i (by omega) e)]
      by_cases h5 : i + 1 ≤ k
      · rw [if_pos h5, if_pos (by omega)]
      · rw [if_neg h5, if_neg (by omega)]
theorem k_sum_no {c : Nat} (hc : R 0 18 = ni c) (hc6 : c ≤ 6) : ∀ (m i f v : Nat), i + m = c → m < f → L_ZoneNodesModel_itemsFor_48 N (zR B Y R) B (-1) f (ni v) (ni i) = some (ni v) := by
  intro m
  induction m with
  | zero =>
    intro i f v h3 h4
    obtain ⟨g, rfl⟩ : ∃ g, f = g + 1 := ⟨f - 1, by omega⟩
    rw [L_ZoneNodesModel_itemsFor_48, rg18, zb1_some, hc, if_pos ((zle (i := i) (m := c) (by omega) (by omega)).mpr (by omega))]
  | succ m ih =>
    intro i f v h3 h4
    obtain ⟨g, rfl⟩ : ∃ g, f = g + 1 := ⟨f - 1, by omega⟩
    rw [L_ZoneNodesModel_itemsFor_48, rg18, zb1_some, hc, if_neg (fun q => absurd ((zle (i := i) (m := c) (by omega) (by omega)).mp q) (by omega)), if_pos (by decide), Int32.add_zero, ni_succ, ih (i + 1) g v (by omega) (by omega)]
theorem k_sum_in {c k : Nat} {dv : Nat → Nat} (hc : R 0 18 = ni c) (hc6 : c ≤ 6) (hk : k < c) (hd : ∀ j, j < c → R 15 j = ni (dv j)) : ∀ (m i f v : Nat), i + m = c → m < f → L_ZoneNodesModel_itemsFor_48 N (zR B Y R) B (ni k) f (ni v) (ni i) = some (ni (v + (if i ≤ k then sumD dv k (c - k) else sumD dv i m))) := by
  intro m
  induction m with
  | zero =>
    intro i f v h3 h4
    obtain ⟨g, rfl⟩ : ∃ g, f = g + 1 := ⟨f - 1, by omega⟩
    rw [L_ZoneNodesModel_itemsFor_48, rg18, zb1_some, hc, if_pos ((zle (i := i) (m := c) (by omega) (by omega)).mpr (by omega)), if_neg (by omega)]
    rfl
  | succ m ih =>
    intro i f v h3 h4
    obtain ⟨g, rfl⟩ : ∃ g, f = g + 1 := ⟨f - 1, by omega⟩
    rw [L_ZoneNodesModel_itemsFor_48, rg18, zb1_some, hc, if_neg (fun q => absurd ((zle (i := i) (m := c) (by omega) (by omega)).mp q) (by omega)), if_neg (ni_nonneg (a := k) (by omega)), rr22, zb1_some, ra15 (i := i) (by omega), zb1_some, hd i (by omega), Int32.add_zero, ni_add, ni_succ, ih (i + 1) g v (by omega) (by omega), ih (i + 1) g (v + dv i) (by omega) (by omega)]
    by_cases h5 : i < k
    · rw [if_pos ((ni_lt (a := i) (b := k) (by omega) (by omega)).mpr h5), if_pos (by omega), if_pos (by omega)]
    · rw [if_neg (fun q => h5 ((ni_lt (a := i) (b := k) (by omega) (by omega)).mp q)), if_neg (by omega)]
      by_cases h6 : i ≤ k
      · have h7 : i = k := by omega
        subst h7
        rw [if_pos (Nat.le_refl i), show c - i = m + 1 by omega, sumD, Nat.add_assoc]
      · rw [if_neg h6, sumD, Nat.add_assoc]
theorem k_held_no {k : Nat} (hk : k < 6) : ∀ (m i f v : Nat), i + m = 256 → m < f → L_ZoneNodesModel_itemsFor_92 N (zR B Y R) B (ni k) f (ni v) (ni i) = some (ni v) := by
  intro m
  induction m with
  | zero =>
    intro i f v h3 h4
    obtain ⟨g, rfl⟩ : ∃ g, f = g + 1 := ⟨f - 1, by omega⟩
    rw [L_ZoneNodesModel_itemsFor_92, if_pos (show (256 : Int32) ≤ ni i from (ni_le (a := 256) (b := i) (by decide) (by omega)).mpr (by omega))]
  | succ m ih =>
    intro i f v h3 h4
    obtain ⟨g, rfl⟩ : ∃ g, f = g + 1 := ⟨f - 1, by omega⟩
    rw [L_ZoneNodesModel_itemsFor_92, if_neg (show ¬ (256 : Int32) ≤ ni i from fun q => absurd ((ni_le (a := 256) (b := i) (by decide) (by omega)).mp q) (by omega)), if_pos (Int32.not_lt.mp (ni_nonneg (a := k) (by omega))), Int32.add_zero, ni_succ, ih (i + 1) g v (by omega) (by omega)]
theorem k_held_in (hb : b01 (R 4) 768) : ∀ (m i f v : Nat), i + m = 256 → m < f → L_ZoneNodesModel_itemsFor_92 N (zR B Y R) B (-1) f (ni v) (ni i) = some (ni (v + cnt (rb (R 4)) i m)) := by
  intro m
  induction m with
  | zero =>
    intro i f v h3 h4
    obtain ⟨g, rfl⟩ : ∃ g, f = g + 1 := ⟨f - 1, by omega⟩
    rw [L_ZoneNodesModel_itemsFor_92, if_pos (show (256 : Int32) ≤ ni i from (ni_le (a := 256) (b := i) (by decide) (by omega)).mpr (by omega))]
    rfl
  | succ m ih =>
    intro i f v h3 h4
    obtain ⟨g, rfl⟩ : ∃ g, f = g + 1 := ⟨f - 1, by omega⟩
    rw [L_ZoneNodesModel_itemsFor_92, if_neg (show ¬ (256 : Int32) ≤ ni i from fun q => absurd ((ni_le (a := 256) (b := i) (by decide) (by omega)).mp q) (by omega)), if_neg (by decide), rr7, zb1_some, ra4 (i := i) (by omega), zb1_some, Int32.add_zero, ni_succ, ni_succ, ih (i + 1) g v (by omega) (by omega), ih (i + 1) g (v + 1) (by omega) (by omega), cnt]
    cases hr : rb (R 4) i with
    | false =>
      rw [if_pos ((rb_zero hb (by omega)).mpr hr), if_neg (by decide), Nat.zero_add]
    | true =>
      rw [if_neg (fun q => by rw [(rb_zero hb (by omega)).mp q] at hr; cases hr), if_pos rfl, Nat.add_assoc]
theorem k_itemsW {c : Nat} {has sr : Int32} (hc : R 0 18 = ni c) (hc6 : c ≤ 6) (hb : b01 (R 4) 768) (hno : has = 0 ∨ ∀ j, j < c → R 12 j ≠ sr) (hN : 300 < N) : f_ZoneNodesModel_itemsFor N (zR B Y R) B has sr = some (ni (cnt (rb (R 4)) 0 256)) := by
  unfold f_ZoneNodesModel_itemsFor
  have e := k_held_in (N := N) (B := B) (Y := Y) hb 256 0 N 0 (by omega) (by omega)
  rw [Nat.zero_add] at e
  rw [show (0 : Int32) = ni 0 from rfl, k_from_no hc hc6 hno c 0 N _ (by omega) (by omega), zb1_some, k_sum_no hc hc6 c 0 N 0 (by omega) (by omega), zb1_some, e, zb1_some]
theorem k_itemsD {c k : Nat} {has sr : Int32} {dv : Nat → Nat} (hc : R 0 18 = ni c) (hc6 : c ≤ 6) (hh : has ≠ 0) (hk : k < c) (hkk : R 12 k = sr) (hu : ∀ j, j < c → j ≠ k → R 12 j ≠ sr) (hd : ∀ j, j < c → R 15 j = ni (dv j)) (hN : 300 < N) : f_ZoneNodesModel_itemsFor N (zR B Y R) B has sr = some (ni (sumD dv k (c - k))) := by
  unfold f_ZoneNodesModel_itemsFor
  have e := k_sum_in (N := N) (B := B) (Y := Y) hc hc6 hk hd c 0 N 0 (by omega) (by omega)
  rw [if_pos (Nat.zero_le k), Nat.zero_add] at e
  rw [show (0 : Int32) = ni 0 from rfl, k_from_in hc hc6 hh hk hkk hu c 0 N _ (by omega) (by omega), if_pos (Nat.zero_le k), zb1_some, e, zb1_some, k_held_no (by omega) 256 0 N _ (by omega) (by omega), zb1_some]
theorem k_parts_L {s n : Nat} (hs : s < 3) (hn : n ≤ 112) : ∀ (m p f c : Nat) (R : Nat → Nat → Int32), R 0 24 = ni c → c + m ≤ 96 → p + m ≤ 28 → b01 (R 22) 96 → b01 (R 23) 96 → n ≤ 4 * (p + m) → (m = 0 ∨ 4 * (p + m - 1) < n) → m < f →
    ∃ R', L_ZoneNodesModel_takeFetch_48 N B (ni s) (ni n) f (zR B Y R) (ni p) = some ((), zR B Y R') ∧ R' 0 24 = ni (c + m) ∧ rfr R R' ∧ rlist R' (c + m) = rlist R c ++ rps (ni s) (R 3 0) n p m := by
  intro m
  induction m with
  | zero =>
    intro p f c R hc hc96 hp h1 h2 h3 h4 hf
    obtain ⟨g, rfl⟩ : ∃ g, f = g + 1 := ⟨f - 1, by omega⟩
    refine ⟨R, ?_, by rw [hc, Nat.add_zero], rfr.refl h1 h2, by simp [rps]⟩
    rw [L_ZoneNodesModel_takeFetch_48, show (4 : Int32) = ni 4 from rfl, ni_mul, if_pos ((zle (i := 4 * p) (m := n) (by omega) (by omega)).mpr (by omega))]
  | succ m ih =>
    intro p f c R hc hc96 hp h1 h2 h3 h4 hf
    obtain ⟨g, rfl⟩ : ∃ g, f = g + 1 := ⟨f - 1, by omega⟩
    have hlt : 4 * p < n := by omega
    have h0 : zai (zR B Y R) (B + 3) 0 = some (R 3 0) := ra3 (i := 0) (by decide)
    have nx : ∀ (z l : Int32), z = ni (min 4 (n - 4 * p)) → l = (if 4 * p + 4 < n then 0 else 1) → ∃ R', (zb1 (zck (zR B Y R) B 9) fun _ => zb2 (f_ZoneNodesModel_append N (zR B Y R) B 5 (ni s) (R 3 0) (ni p) z 0 l) fun _ X26 => L_ZoneNodesModel_takeFetch_48 N B (ni s) (ni n) g X26 (ni p + 1)) = some ((), zR B Y R') ∧ R' 0 24 = ni (c + (m + 1)) ∧ rfr R R' ∧ rlist R' (c + (m + 1)) = rlist R c ++ rps (ni s) (R 3 0) n p (m + 1) := by
      intro z l hz hl
      have hl01 : l = 0 ∨ l = 1 := by
        rw [hl]
        split
        · exact Or.inl rfl
        · exact Or.inr rfl
      have hfr := Rapp_fr (R := R) (c := c) (m := (5, ni s, R 3 0, ni p, z, 0, l)) h1 h2 (Or.inl rfl) hl01
      obtain ⟨R', q1, q2, q3, q4⟩ := ih (p + 1) g (c + 1) (Rapp R c (5, ni s, R 3 0, ni p, z, 0, l)) (Rapp_c _ _ _) (by omega) (by omega) hfr.2.2.1 hfr.2.2.2 (by omega) (by omega) (by omega)
      refine ⟨R', ?_, by rw [q2]; congr 1; omega, hfr.trans q3, ?_⟩
      · rw [rck, zb1_some, k_append hc (by omega) _ _ _ _ _ _ _ (Or.inl rfl) hl01, zb2_some, ni_succ, q1]
      · rw [show c + (m + 1) = c + 1 + m by omega, q4, Rapp_list, List.append_assoc, hfr.1 3 (by decide) (by decide), rps, ← hz, ← hl]
        rfl
    rw [L_ZoneNodesModel_takeFetch_48, show (4 : Int32) = ni 4 from rfl, ni_mul, if_neg (fun q => absurd ((zle (i := 4 * p) (m := n) (by omega) (by omega)).mp q) (by omega)), rr6, zb1_some, h0, zb1_some, ni_sub (a := n) (b := 4 * p) (by omega)]
    by_cases hge : 4 ≤ n - 4 * p
    · rw [if_pos ((ni_le (a := 4) (b := n - 4 * p) (by decide) (by omega)).mpr hge)]
      by_cases hgt : 4 < n - 4 * p
      · rw [if_pos ((ni_lt (a := 4) (b := n - 4 * p) (by decide) (by omega)).mpr hgt)]
        exact nx _ _ (by rw [show min 4 (n - 4 * p) = 4 by omega]) (by rw [if_pos (by omega)])
      · rw [if_neg (fun q => hgt ((ni_lt (a := 4) (b := n - 4 * p) (by decide) (by omega)).mp q))]
        exact nx _ _ (by rw [show min 4 (n - 4 * p) = 4 by omega]) (by rw [if_neg (by omega)])
    · rw [if_neg (fun q => hge ((ni_le (a := 4) (b := n - 4 * p) (by decide) (by omega)).mp q)), if_neg (fun q => absurd ((ni_lt (a := 4) (b := n - 4 * p) (by decide) (by omega)).mp q) (by omega))]
      exact nx _ _ (by rw [show min 4 (n - 4 * p) = n - 4 * p by omega]) (by rw [if_neg (by omega)])
end ZREFV
