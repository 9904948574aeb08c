/-! a tick at a secondary -/
def askC (f : Nat → Int32) (now : Int32) : Prop := f 6 ≠ 0 ∧ ((f 9 = 1 ∧ ¬ now - f 2 < f 11) ∨ (f 9 = 0 ∧ ¬ now < f 10))
def askR (R : Nat → Nat → Int32) (s : Nat) : Prop := R 1 s ≠ 0 ∧ ((R 6 s = 1 ∧ ¬ R 0 3 - R 0 1 < R 7 s) ∨ (R 6 s = 0 ∧ ¬ R 0 3 < R 7 s))
section ZSIMC
variable {A B : Nat} {X Y : zh_T} {M F I J G K : Nat → Nat → Int32} {w e : Nat → Nat} {R : Nat → Nat → Int32} {N n c jc pd k : Nat} {s0 : Int32} {V : Nat → Nat → Bool}
theorem s_askJ (h : k = 202 ∨ k = 207) (now a b : Int32) : J_Secondary_askIfTimeHasCome_47 N (zC A X M F I J G K w e) (A + k) now (A + 6) a b = pif (M k 6 ≠ 0 ∧ (a ≠ 0 ∨ b ≠ 0)) (f_Secondary_ask N (zC A X M F I J G K w e) (A + k) now (A + 6)) (some ((), zC A X M F I J G K w e)) := by
  unfold J_Secondary_askIfTimeHasCome_47
  have hret : ∀ o : Option (Unit × zh_T), (zb2 o fun _ X19 => some ((), X19)) = o := by
    intro o
    cases o with
    | none => rfl
    | some z => rfl
  rw [x_gi h (j := 6) rfl, zb1_some, x_ck h, zb1_some, hret]
  by_cases h6 : M k 6 = 0
  · rw [if_pos h6, pif_neg (fun q => q.1 h6)]
  · rw [if_neg h6]
    by_cases ha : a = 0
    · rw [if_pos ha]
      by_cases hb : b = 0
      · rw [if_pos hb, pif_neg (fun q => q.2.elim (fun z => z ha) (fun z => z hb))]
      · rw [if_neg hb, pif_pos ⟨h6, Or.inr hb⟩]
    · rw [if_neg ha, pif_pos ⟨h6, Or.inl ha⟩]
theorem s_askIf (h : k = 202 ∨ k = 207) (now : Int32) : f_Secondary_askIfTimeHasCome N (zC A X M F I J G K w e) (A + k) now (A + 6) = pif (askC (M k) now) (f_Secondary_ask N (zC A X M F I J G K w e) (A + k) now (A + 6)) (some ((), zC A X M F I J G K w e)) := by
  unfold f_Secondary_askIfTimeHasCome askC
  simp only [x_gi h (j := 9) rfl, x_gi h (j := 11) rfl, x_gi h (j := 2) rfl, x_gi h (j := 10) rfl, zb1_some, s_askJ h]
  have n01 : ¬ (0 : Int32) ≠ 0 := fun q => q rfl
  have y10 : (1 : Int32) ≠ 0 := by decide
  by_cases h1 : M k 9 = 1
  · have h0 : ¬ M k 9 = 0 := by rw [h1]; decide
    rw [if_pos h1]
    by_cases h2 : now - M k 2 < M k 11
    · rw [if_pos h2, if_neg h0]
      apply pif_congr
      constructor
      · exact fun q => absurd q.2 (fun z => z.elim n01 n01)
      · exact fun q => absurd q.2 (fun z => z.elim (fun y => y.2 h2) (fun y => h0 y.1))
    · rw [if_neg h2, if_neg h0]
      apply pif_congr
      constructor
      · exact fun q => ⟨q.1, Or.inl ⟨h1, h2⟩⟩
      · exact fun q => ⟨q.1, Or.inl y10⟩
  · rw [if_neg h1]
    by_cases h0 : M k 9 = 0
    · rw [if_pos h0]
      by_cases h2 : now < M k 10
      · rw [if_pos h2]
        apply pif_congr
        constructor
        · exact fun q => absurd q.2 (fun z => z.elim n01 n01)
        · exact fun q => absurd q.2 (fun z => z.elim (fun y => h1 y.1) (fun y => y.2 h2))
      · rw [if_neg h2]
        apply pif_congr
        constructor
        · exact fun q => ⟨q.1, Or.inr ⟨h0, h2⟩⟩
        · exact fun q => ⟨q.1, Or.inr y10⟩
    · rw [if_neg h0]
      apply pif_congr
      constructor
      · exact fun q => absurd q.2 (fun z => z.elim n01 n01)
      · exact fun q => absurd q.2 (fun z => z.elim (fun y => h1 y.1) (fun y => h0 y.1))
end ZSIMC
