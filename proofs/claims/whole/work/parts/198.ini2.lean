/-! constructors: the loops; the class's object -/
def rowE (t len A a b i : Nat) : zh_E := .inl (t, len, .inr (.inr (.inr (.inr fun j => if j < i then some (A + (a + b * j)) else none))))
theorem rowE_step (A a b i : Nat) : va_up (fun j => if j < i then some (A + (a + b * j)) else none) i (some (A + (a + b * i))) = fun j => if j < i + 1 then some (A + (a + b * j)) else none := by
  funext j
  unfold va_up
  by_cases h : j = i
  · rw [if_pos h, if_pos (by omega), h]
  · rw [if_neg h]
    show (if j < i then some (A + (a + b * j)) else none) = _
    by_cases h2 : j < i
    · rw [if_pos h2, if_pos (by omega)]
    · rw [if_neg h2, if_neg (by omega)]
def wcC (c : Nat → zh_E) (A i : Nat) : Nat → zh_E := fun k => if k = 7 then rowE 3 80 A 8 2 80 else if 8 + 2 * i ≤ k ∧ k < 168 then (if (k - 8) % 2 = 0 then .inr (3, msF A k) else .inl (0, 4, .inl fun _ => 0)) else c k
theorem i_wire {N A : Nat} {X : zh_T} : ∀ (m i f : Nat) (c : Nat → zh_E), i + m = 80 → m < f → c 6 = .inr (7, [.ref (A + 7), .int 0]) → c 7 = rowE 3 80 A 8 2 i →
    L_Wire_init_15 N (A + 6) f (blk c (8 + 2 * i) A X) (ni i) = some ((), blk (wcC c A i) 168 A X) := by
  intro m
  induction m with
  | zero =>
    intro i f c h1 h2 h6 h7
    obtain ⟨g, rfl⟩ : ∃ g, f = g + 1 := ⟨f - 1, by omega⟩
    have hi : i = 80 := by omega
    subst hi
    have e : wcC c A 80 = c := by
      funext k
      unfold wcC
      by_cases hk : k = 7
      · rw [if_pos hk, hk, h7]
      · rw [if_neg hk, if_neg (by omega)]
    rw [L_Wire_init_15, b_gr (k := 6) (by omega) h6 rfl, zb1_some, b_ln (k := 7) (by omega) h7, zb1_some, if_pos (show ni 80 ≤ ni 80 from Int32.le_refl _), e]
  | succ m ih =>
    intro i f c h1 h2 h6 h7
    obtain ⟨g, rfl⟩ : ∃ g, f = g + 1 := ⟨f - 1, by omega⟩
    rw [L_Wire_init_15, b_gr (k := 6) (by omega) h6 rfl, zb1_some, b_ln (k := 7) (by omega) h7, zb1_some, if_neg (show ¬ ni 80 ≤ ni i from fun q => absurd ((ni_le (a := 80) (b := i) (by decide) (by omega)).mp q) (by omega)), zb1_some]
    refine q_msg (m := 8 + 2 * i + 2) rfl ?_
    have m6 : msC c (8 + 2 * i) A 6 = c 6 := by
      unfold msC
      rw [if_neg (by omega), if_neg (by omega)]
    have m7 : msC c (8 + 2 * i) A 7 = c 7 := by
      unfold msC
      rw [if_neg (by omega), if_neg (by omega)]
    have mn : msC c (8 + 2 * i) A (8 + 2 * i) = .inr (3, msF A (8 + 2 * i)) := if_pos rfl
    rw [b_sr (k := 7) (d := 8 + 2 * i) (i := i) (len := 80) (f := fun j => if j < i then some (A + (8 + 2 * j)) else none) (by omega) (by rw [m7, h7]; rfl) (by omega) (by decide) (by omega) mn, zb1_some, rowE_step, ni_succ]
    have e := ih (i + 1) g (cu (msC c (8 + 2 * i) A) 7 (rowE 3 80 A 8 2 (i + 1))) (by omega) (by omega) (by rw [cu_ne _ (by decide), m6, h6]) (cu_at _ _ _)
    have e2 : wcC (cu (msC c (8 + 2 * i) A) 7 (rowE 3 80 A 8 2 (i + 1))) A (i + 1) = wcC c A i := by
      funext k
      unfold wcC
      by_cases hk : k = 7
      · rw [if_pos hk, if_pos hk]
      · rw [if_neg hk, if_neg hk, cu_ne _ hk]
        by_cases h3 : 8 + 2 * (i + 1) ≤ k ∧ k < 168
        · rw [if_pos h3, if_pos (show 8 + 2 * i ≤ k ∧ k < 168 by omega)]
        · rw [if_neg h3]
          unfold msC
          by_cases h4 : k = 8 + 2 * i
          · rw [if_pos h4, if_pos (show 8 + 2 * i ≤ k ∧ k < 168 by omega), if_pos (show (k - 8) % 2 = 0 by omega), h4]
          · by_cases h5 : k = 8 + 2 * i + 1
            · rw [if_neg h4, if_pos h5, if_pos (show 8 + 2 * i ≤ k ∧ k < 168 by omega), if_neg (show ¬ (k - 8) % 2 = 0 by omega)]
            · rw [if_neg h4, if_neg h5, if_neg (show ¬ (8 + 2 * i ≤ k ∧ k < 168) by omega)]
    rw [e2] at e
    exact e
def jcC (c : Nat → zh_E) (A i : Nat) : Nat → zh_E := fun k => if k = 175 then rowE 2 5 A 176 5 5 else if 176 + 5 * i ≤ k ∧ k < 201 then (if (k - 176) % 5 = 0 then .inr (1, [.ref (A + (k + 1)), .ref (A + (k + 3)), .int 0, .int 0]) else if (k - 176) % 5 = 1 ∨ (k - 176) % 5 = 3 then .inr (5, [.ref (A + (k + 1))]) else .inl (0, 32, .inl fun _ => 0)) else c k
theorem i_jour {N A : Nat} {X : zh_T} : ∀ (m i f : Nat) (c : Nat → zh_E), i + m = 5 → m < f → c 174 = .inr (2, [.ref (A + 175), .int 0]) → c 175 = rowE 2 5 A 176 5 i →
    L_Journal_init_14 N (A + 174) f (blk c (176 + 5 * i) A X) (ni i) = some ((), blk (jcC c A i) 201 A X) := by
  intro m
  induction m with
  | zero =>
    intro i f c h1 h2 h6 h7
    obtain ⟨g, rfl⟩ : ∃ g, f = g + 1 := ⟨f - 1, by omega⟩
    have hi : i = 5 := by omega
    subst hi
    have e : jcC c A 5 = c := by
      funext k
      unfold jcC
      by_cases hk : k = 175
      · rw [if_pos hk, hk, h7]
      · rw [if_neg hk, if_neg (by omega)]
    rw [L_Journal_init_14, b_gr (k := 174) (by omega) h6 rfl, zb1_some, b_ln (k := 175) (by omega) h7, zb1_some, if_pos (show ni 5 ≤ ni 5 from Int32.le_refl _), e]
  | succ m ih =>
    intro i f c h1 h2 h6 h7
    obtain ⟨g, rfl⟩ : ∃ g, f = g + 1 := ⟨f - 1, by omega⟩
    rw [L_Journal_init_14, b_gr (k := 174) (by omega) h6 rfl, zb1_some, b_ln (k := 175) (by omega) h7, zb1_some, if_neg (show ¬ ni 5 ≤ ni i from fun q => absurd ((ni_le (a := 5) (b := i) (by decide) (by omega)).mp q) (by omega)), zb1_some]
    refine q_ent (m := 176 + 5 * i + 5) rfl ?_
    have ml : ∀ q, q < 176 + 5 * i → enC c (176 + 5 * i) A q = c q := by
      intro q hq
      unfold enC
      rw [cu_ne _ (by omega), rcC_lo (by omega), rcC_lo (by omega), cu_ne _ (by omega)]
    have mn : enC c (176 + 5 * i) A (176 + 5 * i) = .inr (1, [.ref (A + (176 + 5 * i + 1)), .ref (A + (176 + 5 * i + 3)), .int 0, .int 0]) := cu_at _ _ _
    rw [b_sr (k := 175) (d := 176 + 5 * i) (i := i) (len := 5) (f := fun j => if j < i then some (A + (176 + 5 * j)) else none) (by omega) (by rw [ml 175 (by omega), h7]; rfl) (by omega) (by decide) (by omega) mn, zb1_some, rowE_step, ni_succ]
    have e := ih (i + 1) g (cu (enC c (176 + 5 * i) A) 175 (rowE 2 5 A 176 5 (i + 1))) (by omega) (by omega) (by rw [cu_ne _ (by decide), ml 174 (by omega), h6]) (cu_at _ _ _)
    have e2 : jcC (cu (enC c (176 + 5 * i) A) 175 (rowE 2 5 A 176 5 (i + 1))) A (i + 1) = jcC c A i := by
      funext k
      unfold jcC
      by_cases hk : k = 175
      · rw [if_pos hk, if_pos hk]
      · rw [if_neg hk, if_neg hk, cu_ne _ hk]
        by_cases h3 : 176 + 5 * (i + 1) ≤ k ∧ k < 201
        · rw [if_pos h3, if_pos (show 176 + 5 * i ≤ k ∧ k < 201 by omega)]
        · rw [if_neg h3]
          by_cases h4 : 176 + 5 * i ≤ k ∧ k < 201
          · rw [if_pos h4]
            unfold enC
            by_cases h5 : k = 176 + 5 * i
            · rw [if_pos (show (k - 176) % 5 = 0 by omega), h5, cu_at]
            · rw [cu_ne _ h5, if_neg (show ¬ (k - 176) % 5 = 0 by omega)]
              unfold rcC
              by_cases h6' : k = 176 + 5 * i + 1
              · rw [if_neg (show ¬ k = 176 + 5 * i + 3 by omega), if_neg (show ¬ k = 176 + 5 * i + 3 + 1 by omega), if_pos h6', if_pos (show (k - 176) % 5 = 1 ∨ (k - 176) % 5 = 3 by omega), h6']
              · by_cases h7' : k = 176 + 5 * i + 2
                · rw [if_neg (show ¬ k = 176 + 5 * i + 3 by omega), if_neg (show ¬ k = 176 + 5 * i + 3 + 1 by omega), if_neg (show ¬ k = 176 + 5 * i + 1 by omega), if_pos (show k = 176 + 5 * i + 1 + 1 by omega), if_neg (show ¬ ((k - 176) % 5 = 1 ∨ (k - 176) % 5 = 3) by omega)]
                · by_cases h8' : k = 176 + 5 * i + 3
                  · rw [if_pos h8', if_pos (show (k - 176) % 5 = 1 ∨ (k - 176) % 5 = 3 by omega), h8']
                  · rw [if_neg h8', if_pos (show k = 176 + 5 * i + 3 + 1 by omega), if_neg (show ¬ ((k - 176) % 5 = 1 ∨ (k - 176) % 5 = 3) by omega)]
          · rw [if_neg h4]
            by_cases h5 : k < 176 + 5 * i
            · exact ml k h5
            · unfold enC
              rw [cu_ne _ (by omega)]
              unfold rcC
              rw [if_neg (by omega), if_neg (by omega), if_neg (by omega), if_neg (by omega), cu_ne _ (by omega)]
    rw [e2] at e
    exact e
