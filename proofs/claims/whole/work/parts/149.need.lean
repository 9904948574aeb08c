/-! the needs of an update: what the answer is, by the set -/
abbrev zD : Type := Nat × Nat × Nat × Nat
def dok (f4 : Nat) (d : zD) : Prop := d.1 < f4 ∧ d.2.1 < 8 ∧ 1 ≤ d.2.2.1 ∧ d.2.2.1 ≤ 4 ∧ d.2.2.2 < 8
def cdd (d : zD) : Int32 := cd d.1 d.2.1 d.2.2.1 d.2.2.2
def ansN (s : Nat → Bool) (d : zD) : Nat :=
  if d.1 = 0 then (if cnt s (32 * d.2.1) 32 = 0 then 3 else 0)
  else if d.1 = 1 then (if cnt s (32 * d.2.1) 32 = 0 then 0 else 6)
  else if d.1 = 2 then (if cnt s (32 * d.2.1 + 8 * (d.2.2.1 - 1)) 8 = 0 then 8 else 0)
  else if d.1 = 3 then 0
  else if d.1 = 4 then (if cnt s (32 * d.2.1 + 8 * (d.2.2.1 - 1)) 8 = 0 then 0 else 7)
  else 0
def firstN (s : Nat → Bool) (D : Nat → zD) : Nat → Nat → Nat
  | _, 0 => 0
  | i, m + 1 => if ansN s (D i) = 0 then firstN s D (i + 1) m else ansN s (D i)
/-- need i (EXACT) tells value u of the name and type of d -/
def tells (D : Nat → zD) (c : Nat) (d : zD) (u : Nat) : Prop := ∃ j, j < c ∧ (D j).1 = 3 ∧ (D j).2.1 = d.2.1 ∧ (D j).2.2.1 = d.2.2.1 ∧ (D j).2.2.2 = u
def exactN (s : Nat → Bool) (D : Nat → zD) (c : Nat) (d : zD) : Prop := ∀ u, u < 8 → (s (pl d.2.1 d.2.2.1 u) = true ↔ tells D c d u)
def unmetN (s : Nat → Bool) (D : Nat → zD) (c : Nat) (r : Int32) : Prop :=
  (firstN s D 0 c ≠ 0 ∧ r = ni (firstN s D 0 c)) ∨ (firstN s D 0 c = 0 ∧ (∃ i, i < c ∧ (D i).1 = 3 ∧ ¬ exactN s D c (D i)) ∧ r = 8) ∨ (firstN s D 0 c = 0 ∧ (¬ ∃ i, i < c ∧ (D i).1 = 3 ∧ ¬ exactN s D c (D i)) ∧ r = 0)
theorem unmetN_fun {s : Nat → Bool} {D : Nat → zD} {c : Nat} {r r' : Int32} (h : unmetN s D c r) (h' : unmetN s D c r') : r = r' := by
  rcases h with ⟨a, b⟩ | ⟨a, a1, b⟩ | ⟨a, a1, b⟩ <;> rcases h' with ⟨a', b'⟩ | ⟨a', a1', b'⟩ | ⟨a', a1', b'⟩
  · rw [b, b']
  · exact absurd a' a
  · exact absurd a' a
  · exact absurd a a'
  · rw [b, b']
  · exact absurd a1 a1'
  · exact absurd a a'
  · exact absurd a1' a1
  · rw [b, b']
theorem ansN_congr {s t : Nat → Bool} {d : zD} (hd : dok 5 d) (h : sEq s t) : ansN s d = ansN t d := by
  obtain ⟨h0, h1, h2, h3, h4⟩ := hd
  unfold ansN
  rw [h.cnt (o := 32 * d.2.1) (n := 32) (by omega), h.cnt (o := 32 * d.2.1 + 8 * (d.2.2.1 - 1)) (n := 8) (by omega)]
section ZNEED
variable {A : Nat} {X : zh_T} {M F I J G K : Nat → Nat → Int32} {w e : Nat → Nat} {N : Nat}
variable {sh : Nat → zl_S} {n k : Nat} {P : Nat → Nat → Nat}
theorem s_answerTo (h : zrec sh n k) {d : zD} (hd : dok 5 d) (hg : okS (M (k + 1))) (hN : 100 < N) : f_Draft_answerTo N (zl sh n A X M P) (cdd d) (A + k) = some (ni (ansN (cs (M (k + 1))) d)) := by
  obtain ⟨h0, h1, h2, h3, h4⟩ := hd
  unfold f_Draft_answerTo cdd ansN
  rw [s_nameOf (by omega) h1 h3 h4, zb1_some, s_typeOf (by omega) h1 h3 h4, zb1_some, zr2 h, zb1_some, s_valuesOf h h1 h2 h3, zb1_some, s_formOf (by omega) h1 h3 h4, zb1_some, zb1_some, s_isUsed h h1 hN, zb1_some, zb1_some, zb1_some]
  have hz := row_zero hg (r := 4 * d.2.1 + d.2.2.1 - 1) (by omega)
  rw [show 8 * (4 * d.2.1 + d.2.2.1 - 1) = 32 * d.2.1 + 8 * (d.2.2.1 - 1) by omega] at hz
  have hu := used_iff hg h1
  have e0 : (ni d.1 = 0) ↔ d.1 = 0 := ni_inj (a := d.1) (by omega) (b := 0) (by decide)
  have e1 : (ni d.1 = 1) ↔ d.1 = 1 := ni_inj (a := d.1) (by omega) (b := 1) (by decide)
  have e2 : (ni d.1 = 2) ↔ d.1 = 2 := ni_inj (a := d.1) (by omega) (b := 2) (by decide)
  have e3 : (ni d.1 = 3) ↔ d.1 = 3 := ni_inj (a := d.1) (by omega) (b := 3) (by decide)
  have e4 : (ni d.1 = 4) ↔ d.1 = 4 := ni_inj (a := d.1) (by omega) (b := 4) (by decide)
  by_cases c0 : d.1 = 0
  · rw [if_pos (e0.mpr c0), if_pos c0]
    by_cases q : cnt (cs (M (k + 1))) (32 * d.2.1) 32 = 0
    · rw [pif_neg (fun z => hu.mp z q), if_pos rfl, if_pos q]
      rfl
    · rw [pif_pos (hu.mpr q), if_neg (by decide), if_neg q]
      rfl
  · rw [if_neg (fun z => c0 (e0.mp z)), if_neg c0]
    by_cases c1 : d.1 = 1
    · rw [if_pos (e1.mpr c1), if_pos c1]
      by_cases q : cnt (cs (M (k + 1))) (32 * d.2.1) 32 = 0
      · rw [pif_neg (fun z => hu.mp z q), if_pos rfl, if_pos q]
        rfl
      · rw [pif_pos (hu.mpr q), if_neg (by decide), if_neg q]
        rfl
    · rw [if_neg (fun z => c1 (e1.mp z)), if_neg c1]
      by_cases c2 : d.1 = 2
      · rw [if_pos (e2.mpr c2), if_pos c2]
        by_cases q : cnt (cs (M (k + 1))) (32 * d.2.1 + 8 * (d.2.2.1 - 1)) 8 = 0
        · rw [if_pos (hz.mpr q), if_pos q]
          rfl
        · rw [if_neg (fun z => q (hz.mp z)), if_neg q]
          rfl
      · rw [if_neg (fun z => c2 (e2.mp z)), if_neg c2]
        by_cases c3 : d.1 = 3
        · rw [if_pos (e3.mpr c3), if_pos c3]
          rfl
        · rw [if_neg (fun z => c3 (e3.mp z)), if_neg c3]
          by_cases c4 : d.1 = 4
          · rw [if_pos (e4.mpr c4), if_pos c4]
            by_cases q : cnt (cs (M (k + 1))) (32 * d.2.1 + 8 * (d.2.2.1 - 1)) 8 = 0
            · rw [if_pos (hz.mpr q), if_pos q]
              rfl
            · rw [if_neg (fun z => q (hz.mp z)), if_neg q]
              rfl
          · omega
theorem ansN_lt (s : Nat → Bool) (d : zD) : ansN s d < 9 := by
  unfold ansN
  repeat' split
  all_goals omega
end ZNEED
