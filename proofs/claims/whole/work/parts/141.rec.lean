/-! the class Records, at any cell k of a block: its numbers lie in the cell behind it -/
def zrec (sh : Nat → zl_S) (n k : Nat) : Prop := k + 1 < n ∧ sh k = .inl (5, [some (k + 1)]) ∧ sh (k + 1) = .inr (.inl (0, 32))
theorem zix {nm ty : Nat} (h : 1 ≤ ty) : 4 * ni nm + ni ty - 1 = ni (4 * nm + ty - 1) := by
  rw [show (4 : Int32) = ni 4 from rfl, ni_mul, ni_add, ni_pred (a := 4 * nm + ty) (by omega)]
theorem zle {i m : Nat} (hi : i < 65536) (hm : m < 65536) : (ni m ≤ ni i) ↔ m ≤ i := ni_le (by omega) (by omega)
section ZREC
variable {sh : Nat → zl_S} {n A : Nat} {X : zh_T} {M : Nat → Nat → Int32} {P : Nat → Nat → Nat} {N k a b : Nat}
theorem zr1 (h : zrec sh n k) : zgr (zl sh n A X M P) (A + k) 5 0 = some (A + (k + 1)) := zl_gr (Nat.lt_of_succ_lt h.1) h.2.1 rfl
theorem zr2 (h : zrec sh n k) : zck (zl sh n A X M P) (A + k) 5 = some () := zl_ck (Nat.lt_of_succ_lt h.1) h.2.1
theorem zr3 (h : zrec sh n k) : zln (zl sh n A X M P) 0 (A + (k + 1)) = some (ni 32) := zl_ln h.1 h.2.2
theorem zr4 (h : zrec sh n k) {i : Nat} (hi : i < 32) : zai (zl sh n A X M P) (A + (k + 1)) (ni i) = some (M (k + 1) i) := zl_ai h.1 h.2.2 hi (by decide)
theorem zr5 (h : zrec sh n k) {i : Nat} (hi : i < 32) (v : Int32) : zsi (zl sh n A X M P) (A + (k + 1)) (ni i) v = some (zl sh n A X (zu M (k + 1) (upd (M (k + 1)) i v)) P) := zl_si h.1 h.2.2 hi (by decide)
theorem s_valuesOf (h : zrec sh n k) {nm ty : Nat} (h1 : nm < 8) (h2 : 1 ≤ ty) (h3 : ty ≤ 4) : f_Records_valuesOf N (zl sh n A X M P) (A + k) (ni nm) (ni ty) = some (M (k + 1) (4 * nm + ty - 1)) := by
  unfold f_Records_valuesOf
  rw [zr1 h, zb1_some, zix h2, zr4 h (i := 4 * nm + ty - 1) (by omega), zb1_some]
theorem s_setValues (h : zrec sh n k) {nm ty : Nat} (h1 : nm < 8) (h2 : 1 ≤ ty) (h3 : ty ≤ 4) (v : Int32) : f_Records_setValues N (zl sh n A X M P) (A + k) (ni nm) (ni ty) v = some ((), zl sh n A X (zu M (k + 1) (upd (M (k + 1)) (4 * nm + ty - 1) v)) P) := by
  unfold f_Records_setValues
  rw [zr1 h, zb1_some, zix h2, zr5 h (i := 4 * nm + ty - 1) (by omega), zb1_some]
theorem s_put (h : zrec sh n k) {nm ty v : Nat} (h1 : nm < 8) (h2 : 1 ≤ ty) (h3 : ty ≤ 4) : f_Records_put N (zl sh n A X M P) (A + k) (ni nm) (ni ty) (ni v) = some ((), zl sh n A X (zu M (k + 1) (upd (M (k + 1)) (4 * nm + ty - 1) (M (k + 1) (4 * nm + ty - 1) ||| (1 <<< (ni v &&& 31))))) P) := by
  unfold f_Records_put
  rw [zr2 h, zb1_some, s_valuesOf h h1 h2 h3, zb1_some, zb1_some, s_setValues h h1 h2 h3, zb2_some]
theorem s_takeAway (h : zrec sh n k) {nm ty v : Nat} (h1 : nm < 8) (h2 : 1 ≤ ty) (h3 : ty ≤ 4) : f_Records_takeAway N (zl sh n A X M P) (A + k) (ni nm) (ni ty) (ni v) = some ((), zl sh n A X (zu M (k + 1) (upd (M (k + 1)) (4 * nm + ty - 1) (M (k + 1) (4 * nm + ty - 1) &&& ((1 <<< (ni v &&& 31)) ^^^ (-1))))) P) := by
  unfold f_Records_takeAway
  rw [zr2 h, zb1_some, s_valuesOf h h1 h2 h3, zb1_some, zb1_some, s_setValues h h1 h2 h3, zb2_some]
theorem s_contains (h : zrec sh n k) {nm ty v : Nat} (h1 : nm < 8) (h2 : 1 ≤ ty) (h3 : ty ≤ 4) (h4 : v < 8) : f_Records_contains N (zl sh n A X M P) (A + k) (ni nm) (ni ty) (ni v) = some (if bt (M (k + 1) (4 * nm + ty - 1)) v then 1 else 0) := by
  unfold f_Records_contains
  rw [zr2 h, zb1_some, s_valuesOf h h1 h2 h3, zb1_some]
  by_cases hb : bt (M (k + 1) (4 * nm + ty - 1)) v = true
  · rw [if_pos ((bt_shr h4 _).mpr hb), if_pos hb]
  · rw [if_neg fun q => hb ((bt_shr h4 _).mp q), if_neg hb]
/-- the loop over types 1 .. 4 that are not ALIAS -/
theorem s_other_L (h : zrec sh n k) {nm : Nat} (h1 : nm < 8) : ∀ (m ty f : Nat), 1 ≤ ty → ty + m = 5 → m < f →
    L_Records_hasOtherThanAlias_2 N (zl sh n A X M P) (A + k) (ni nm) f (ni ty) = some (pif (∃ t, ty ≤ t ∧ t ≤ 4 ∧ t ≠ 2 ∧ M (k + 1) (4 * nm + t - 1) ≠ 0) (.inl 1) (.inr ())) := by
  intro m
  induction m with
  | zero =>
    intro ty f h2 h3 h4
    obtain ⟨g, rfl⟩ : ∃ g, f = g + 1 := ⟨f - 1, by omega⟩
    rw [L_Records_hasOtherThanAlias_2, if_pos (show (4 : Int32) < ni ty from (ni_lt (a := 4) (by decide) (b := ty) (by omega)).mpr (by omega)), pif_neg]
    rintro ⟨t, t1, t2, -, -⟩
    omega
  | succ m ih =>
    intro ty f h2 h3 h4
    obtain ⟨g, rfl⟩ : ∃ g, f = g + 1 := ⟨f - 1, by omega⟩
    rw [L_Records_hasOtherThanAlias_2, if_neg (show ¬ (4 : Int32) < ni ty from fun q => absurd ((ni_lt (a := 4) (by decide) (b := ty) (by omega)).mp q) (by omega)), ni_succ, ih (ty + 1) g (by omega) (by omega) (by omega)]
    by_cases e2 : ty = 2
    · subst e2
      rw [if_pos (show ni 2 = 2 from rfl)]
      congr 1
      apply pif_congr
      constructor
      · rintro ⟨t, t1, t2, t3, t4⟩
        exact ⟨t, by omega, t2, t3, t4⟩
      · rintro ⟨t, t1, t2, t3, t4⟩
        exact ⟨t, by omega, t2, t3, t4⟩
    · rw [if_neg (show ¬ ni ty = 2 from fun q => e2 ((ni_inj (a := ty) (by omega) (b := 2) (by decide)).mp q)), zr2 h, zb1_some, s_valuesOf h h1 h2 (by omega), zb1_some]
      by_cases e0 : M (k + 1) (4 * nm + ty - 1) = 0
      · rw [if_pos e0]
        congr 1
        apply pif_congr
        constructor
        · rintro ⟨t, t1, t2, t3, t4⟩
          exact ⟨t, by omega, t2, t3, t4⟩
        · rintro ⟨t, t1, t2, t3, t4⟩
          refine ⟨t, ?_, t2, t3, t4⟩
          by_cases et : t = ty
          · subst et
            exact absurd e0 t4
          · omega
      · rw [if_neg e0, pif_pos ⟨ty, Nat.le_refl ty, by omega, e2, e0⟩]
theorem s_other (h : zrec sh n k) {nm : Nat} (h1 : nm < 8) (hN : 100 < N) : f_Records_hasOtherThanAlias N (zl sh n A X M P) (A + k) (ni nm) = some (pif (∃ t, 1 ≤ t ∧ t ≤ 4 ∧ t ≠ 2 ∧ M (k + 1) (4 * nm + t - 1) ≠ 0) 1 0) := by
  unfold f_Records_hasOtherThanAlias
  rw [show (1 : Int32) = ni 1 from rfl, s_other_L h h1 4 1 N (by omega) (by omega) (by omega)]
  by_cases e : ∃ t, 1 ≤ t ∧ t ≤ 4 ∧ t ≠ 2 ∧ M (k + 1) (4 * nm + t - 1) ≠ 0
  · rw [pif_pos e, pif_pos e]
    rfl
  · rw [pif_neg e, pif_neg e]
    rfl
theorem s_isUsed (h : zrec sh n k) {nm : Nat} (h1 : nm < 8) (hN : 100 < N) : f_Records_isUsed N (zl sh n A X M P) (A + k) (ni nm) = some (pif (∃ t, 1 ≤ t ∧ t ≤ 4 ∧ M (k + 1) (4 * nm + t - 1) ≠ 0) 1 0) := by
  unfold f_Records_isUsed
  rw [zr2 h, zb1_some, show (2 : Int32) = ni 2 from rfl, s_valuesOf h (ty := 2) h1 (by omega) (by omega), zb1_some, zb1_some, s_other h h1 hN, zb1_some]
  by_cases e2 : M (k + 1) (4 * nm + 2 - 1) = 0
  · rw [if_pos e2]
    by_cases e : ∃ t, 1 ≤ t ∧ t ≤ 4 ∧ t ≠ 2 ∧ M (k + 1) (4 * nm + t - 1) ≠ 0
    · rw [pif_pos e, if_neg (by decide), pif_pos]
      obtain ⟨t, t1, t2, -, t4⟩ := e
      exact ⟨t, t1, t2, t4⟩
    · rw [pif_neg e, if_pos rfl, pif_neg]
      rintro ⟨t, t1, t2, t4⟩
      by_cases et : t = 2
      · subst et
        exact t4 e2
      · exact e ⟨t, t1, t2, et, t4⟩
  · rw [if_neg e2, pif_pos ⟨2, by omega, by omega, e2⟩]
/-- the first value from v on that the name's ALIAS row has -/
def firstB (x : Int32) : Nat → Nat → Option Nat
  | _, 0 => none
  | v, m + 1 => if bt x v then some v else firstB x (v + 1) m
theorem s_alias_L (h : zrec sh n k) {nm : Nat} (h1 : nm < 8) : ∀ (m v f : Nat), v + m = 8 → m < f →
    L_Records_aliasOf_2 N (zl sh n A X M P) (A + k) (ni nm) f (ni v) = some (match firstB (M (k + 1) (4 * nm + 1)) v m with | some u => .inl (ni u) | none => .inr ()) := by
  intro m
  induction m with
  | zero =>
    intro v f h3 h4
    obtain ⟨g, rfl⟩ : ∃ g, f = g + 1 := ⟨f - 1, by omega⟩
    rw [L_Records_aliasOf_2, if_pos (show (8 : Int32) ≤ ni v from (ni_le (a := 8) (by decide) (b := v) (by omega)).mpr (by omega))]
    rfl
  | succ m ih =>
    intro v f h3 h4
    obtain ⟨g, rfl⟩ : ∃ g, f = g + 1 := ⟨f - 1, by omega⟩
    rw [L_Records_aliasOf_2, if_neg (show ¬ (8 : Int32) ≤ ni v from fun q => absurd ((ni_le (a := 8) (by decide) (b := v) (by omega)).mp q) (by omega)), zr2 h, zb1_some, show (2 : Int32) = ni 2 from rfl, s_contains h (ty := 2) (v := v) h1 (by omega) (by omega) (by omega), zb1_some, ni_succ, ih (v + 1) g (by omega) (by omega)]
    rw [firstB, show 4 * nm + 2 - 1 = 4 * nm + 1 by omega]
    by_cases e : bt (M (k + 1) (4 * nm + 1)) v = true
    · rw [if_pos e, if_pos e, if_neg (by decide)]
    · rw [if_neg e, if_neg e, if_pos rfl]
theorem s_aliasOf (h : zrec sh n k) {nm : Nat} (h1 : nm < 8) (hN : 100 < N) : f_Records_aliasOf N (zl sh n A X M P) (A + k) (ni nm) = some (match firstB (M (k + 1) (4 * nm + 1)) 0 8 with | some u => ni u | none => -1) := by
  unfold f_Records_aliasOf
  rw [show (0 : Int32) = ni 0 from rfl, s_alias_L h h1 8 0 N (by omega) (by omega)]
  cases firstB (M (k + 1) (4 * nm + 1)) 0 8 with
  | none => rfl
  | some u => rfl
/-! the loops over the 32 numbers -/
theorem upd_eq (g : Nat → Int32) (i : Nat) (v : Int32) : upd g i v i = v := if_pos rfl
theorem upd_ne {g : Nat → Int32} {i j : Nat} (v : Int32) (h : j ≠ i) : upd g i v j = g j := if_neg h
/-- g with the places from .. 31 as in g' -/
def zmix (i : Nat) (g g' : Nat → Int32) : Nat → Int32 := fun j => if i ≤ j ∧ j < 32 then g' j else g j
theorem zmix_end (g g' : Nat → Int32) : zmix 32 g g' = g := by
  funext j
  exact if_neg (by omega)
theorem zmix_step {i : Nat} (h : i < 32) (g g' : Nat → Int32) : zmix (i + 1) (upd g i (g' i)) g' = zmix i g g' := by
  funext j
  unfold zmix
  by_cases e : j = i
  · subst e
    rw [if_neg (by omega), if_pos ⟨Nat.le_refl j, h⟩, upd_eq]
  · by_cases e1 : i ≤ j ∧ j < 32
    · rw [if_pos e1, if_pos (by omega)]
    · rw [if_neg e1, if_neg (by omega), upd_ne _ e]
theorem s_copyFrom_L (ha : zrec sh n a) (hb : zrec sh n b) (hab : a ≠ b) : ∀ (m i f : Nat) (M : Nat → Nat → Int32), i + m = 32 → m < f →
    L_Records_copyFrom_2 N (A + a) (A + b) f (zl sh n A X M P) (ni i) = some ((), zl sh n A X (zu M (a + 1) (zmix i (M (a + 1)) (M (b + 1)))) P) := by
  intro m
  induction m with
  | zero =>
    intro i f M h3 h4
    obtain ⟨g, rfl⟩ : ∃ g, f = g + 1 := ⟨f - 1, by omega⟩
    have e : i = 32 := by omega
    subst e
    rw [L_Records_copyFrom_2, zr1 ha, zb1_some, zr3 ha, zb1_some, if_pos (Int32.le_refl _), zmix_end, zu_id]
  | succ m ih =>
    intro i f M h3 h4
    obtain ⟨g, rfl⟩ : ∃ g, f = g + 1 := ⟨f - 1, by omega⟩
    rw [L_Records_copyFrom_2, zr1 ha, zb1_some, zr3 ha, zb1_some, if_neg (fun q => absurd ((zle (i := i) (m := 32) (by omega) (by omega)).mp q) (by omega)), zb1_some, zr1 hb, zb1_some, zr4 hb (i := i) (by omega), zb1_some, zr5 ha (i := i) (by omega), zb1_some, ni_succ, ih (i + 1) g _ (by omega) (by omega)]
    rw [zu_zu, zu_same, zu_ne _ (by omega : b + 1 ≠ a + 1), zmix_step (i := i) (by omega)]
theorem s_copyFrom (ha : zrec sh n a) (hb : zrec sh n b) (hab : a ≠ b) (hN : 100 < N) : f_Records_copyFrom N (zl sh n A X M P) (A + a) (A + b) = some ((), zl sh n A X (zu M (a + 1) (zmix 0 (M (a + 1)) (M (b + 1)))) P) := by
  unfold f_Records_copyFrom
  rw [show (0 : Int32) = ni 0 from rfl, s_copyFrom_L ha hb hab 32 0 N M (by omega) (by omega), zb2_some]
theorem s_empty_L (ha : zrec sh n a) : ∀ (m i f : Nat) (M : Nat → Nat → Int32), i + m = 32 → m < f →
    L_Records_empty_2 N (A + a) f (zl sh n A X M P) (ni i) = some ((), zl sh n A X (zu M (a + 1) (zmix i (M (a + 1)) (fun _ => 0))) P) := by
  intro m
  induction m with
  | zero =>
    intro i f M h3 h4
    obtain ⟨g, rfl⟩ : ∃ g, f = g + 1 := ⟨f - 1, by omega⟩
    have e : i = 32 := by omega
    subst e
    rw [L_Records_empty_2, zr1 ha, zb1_some, zr3 ha, zb1_some, if_pos (Int32.le_refl _), zmix_end, zu_id]
  | succ m ih =>
    intro i f M h3 h4
    obtain ⟨g, rfl⟩ : ∃ g, f = g + 1 := ⟨f - 1, by omega⟩
    rw [L_Records_empty_2, zr1 ha, zb1_some, zr3 ha, zb1_some, if_neg (fun q => absurd ((zle (i := i) (m := 32) (by omega) (by omega)).mp q) (by omega)), zb1_some, zr5 ha (i := i) (by omega), zb1_some, ni_succ, ih (i + 1) g _ (by omega) (by omega)]
    rw [zu_zu, zu_same, zmix_step (i := i) (g' := fun _ => 0) (by omega)]
theorem s_empty (ha : zrec sh n a) (hN : 100 < N) : f_Records_empty N (zl sh n A X M P) (A + a) = some ((), zl sh n A X (zu M (a + 1) (zmix 0 (M (a + 1)) (fun _ => 0))) P) := by
  unfold f_Records_empty
  rw [show (0 : Int32) = ni 0 from rfl, s_empty_L ha 32 0 N M (by omega) (by omega), zb2_some]
  rfl
theorem s_difference_L {c : Nat} (ha : zrec sh n a) (hb : zrec sh n b) (hc : zrec sh n c) (hab : a ≠ b) (hac : a ≠ c) : ∀ (m i f : Nat) (M : Nat → Nat → Int32), i + m = 32 → m < f →
    L_Records_becomeDifference_2 N (A + a) (A + b) (A + c) f (zl sh n A X M P) (ni i) = some ((), zl sh n A X (zu M (a + 1) (zmix i (M (a + 1)) (fun j => M (b + 1) j &&& (M (c + 1) j ^^^ (-1))))) P) := by
  intro m
  induction m with
  | zero =>
    intro i f M h3 h4
    obtain ⟨g, rfl⟩ : ∃ g, f = g + 1 := ⟨f - 1, by omega⟩
    have e : i = 32 := by omega
    subst e
    rw [L_Records_becomeDifference_2, zr1 ha, zb1_some, zr3 ha, zb1_some, if_pos (Int32.le_refl _), zmix_end, zu_id]
  | succ m ih =>
    intro i f M h3 h4
    obtain ⟨g, rfl⟩ : ∃ g, f = g + 1 := ⟨f - 1, by omega⟩
    rw [L_Records_becomeDifference_2, zr1 ha, zb1_some, zr3 ha, zb1_some, if_neg (fun q => absurd ((zle (i := i) (m := 32) (by omega) (by omega)).mp q) (by omega)), zb1_some, zr1 hb, zb1_some, zr4 hb (i := i) (by omega), zb1_some, zr1 hc, zb1_some, zr4 hc (i := i) (by omega), zb1_some, zr5 ha (i := i) (by omega), zb1_some, ni_succ, ih (i + 1) g _ (by omega) (by omega)]
    rw [zu_zu, zu_same, zu_ne _ (by omega : b + 1 ≠ a + 1), zu_ne _ (by omega : c + 1 ≠ a + 1)]
    rw [zmix_step (g := M (a + 1)) (g' := fun j => M (b + 1) j &&& (M (c + 1) j ^^^ (-1))) (i := i) (by omega)]
theorem s_difference {c : Nat} (ha : zrec sh n a) (hb : zrec sh n b) (hc : zrec sh n c) (hab : a ≠ b) (hac : a ≠ c) (hN : 100 < N) : f_Records_becomeDifference N (zl sh n A X M P) (A + a) (A + b) (A + c) = some ((), zl sh n A X (zu M (a + 1) (zmix 0 (M (a + 1)) (fun j => M (b + 1) j &&& (M (c + 1) j ^^^ (-1))))) P) := by
  unfold f_Records_becomeDifference
  rw [show (0 : Int32) = ni 0 from rfl, s_difference_L ha hb hc hab hac 32 0 N M (by omega) (by omega), zb2_some]
theorem s_exchange_L {c : Nat} (ha : zrec sh n a) (hb : zrec sh n b) (hc : zrec sh n c) (hab : a ≠ b) (hac : a ≠ c) : ∀ (m i f : Nat) (M0 M : Nat → Nat → Int32), i + m = 32 → m < f → (∀ j, i ≤ j → M (a + 1) j = M0 (a + 1) j) →
    L_Records_exchange_2 N (A + a) (A + b) (A + c) f (zl sh n A X M P) (ni i) = some ((), zl sh n A X (zu M (a + 1) (zmix i (M (a + 1)) (fun j => (M0 (a + 1) j &&& (M (b + 1) j ^^^ (-1))) ||| M (c + 1) j))) P) := by
  intro m
  induction m with
  | zero =>
    intro i f M0 M h3 h4 h5
    obtain ⟨g, rfl⟩ : ∃ g, f = g + 1 := ⟨f - 1, by omega⟩
    have e : i = 32 := by omega
    subst e
    rw [L_Records_exchange_2, zr1 ha, zb1_some, zr3 ha, zb1_some, if_pos (Int32.le_refl _), zmix_end, zu_id]
  | succ m ih =>
    intro i f M0 M h3 h4 h5
    obtain ⟨g, rfl⟩ : ∃ g, f = g + 1 := ⟨f - 1, by omega⟩
    rw [L_Records_exchange_2, zr1 ha, zb1_some, zr3 ha, zb1_some, if_neg (fun q => absurd ((zle (i := i) (m := 32) (by omega) (by omega)).mp q) (by omega)), zb1_some, zb1_some, zr4 ha (i := i) (by omega), zb1_some, zr1 hb, zb1_some, zr4 hb (i := i) (by omega), zb1_some, zr1 hc, zb1_some, zr4 hc (i := i) (by omega), zb1_some, zr5 ha (i := i) (by omega), zb1_some, ni_succ, ih (i + 1) g M0 _ (by omega) (by omega) (fun j hj => by rw [zu_same, upd_ne _ (by omega)]; exact h5 j (by omega))]
    rw [zu_zu, zu_same, zu_ne _ (by omega : b + 1 ≠ a + 1), zu_ne _ (by omega : c + 1 ≠ a + 1), h5 i (Nat.le_refl i)]
    rw [zmix_step (g := M (a + 1)) (g' := fun j => (M0 (a + 1) j &&& (M (b + 1) j ^^^ (-1))) ||| M (c + 1) j) (i := i) (by omega)]
theorem s_exchange {c : Nat} (ha : zrec sh n a) (hb : zrec sh n b) (hc : zrec sh n c) (hab : a ≠ b) (hac : a ≠ c) (hN : 100 < N) : f_Records_exchange N (zl sh n A X M P) (A + a) (A + b) (A + c) = some ((), zl sh n A X (zu M (a + 1) (zmix 0 (M (a + 1)) (fun j => (M (a + 1) j &&& (M (b + 1) j ^^^ (-1))) ||| M (c + 1) j))) P) := by
  unfold f_Records_exchange
  rw [show (0 : Int32) = ni 0 from rfl, s_exchange_L ha hb hc hab hac 32 0 N M M (by omega) (by omega) (fun _ _ => rfl), zb2_some]
theorem s_sameAs_L (ha : zrec sh n a) (hb : zrec sh n b) : ∀ (m i f : Nat), i + m = 32 → m < f →
    L_Records_sameAs_2 N (zl sh n A X M P) (A + a) (A + b) f (ni i) = some (pif (∀ j, i ≤ j → j < 32 → M (a + 1) j = M (b + 1) j) (.inr ()) (.inl 0)) := by
  intro m
  induction m with
  | zero =>
    intro i f h3 h4
    obtain ⟨g, rfl⟩ : ∃ g, f = g + 1 := ⟨f - 1, by omega⟩
    have e : i = 32 := by omega
    subst e
    rw [L_Records_sameAs_2, zr1 ha, zb1_some, zr3 ha, zb1_some, if_pos (Int32.le_refl _), pif_pos (fun j h1 h2 => by omega)]
  | succ m ih =>
    intro i f h3 h4
    obtain ⟨g, rfl⟩ : ∃ g, f = g + 1 := ⟨f - 1, by omega⟩
    rw [L_Records_sameAs_2, zr1 ha, zb1_some, zr3 ha, zb1_some, if_neg (fun q => absurd ((zle (i := i) (m := 32) (by omega) (by omega)).mp q) (by omega)), zb1_some, zr4 ha (i := i) (by omega), zb1_some, zr1 hb, zb1_some, zr4 hb (i := i) (by omega), zb1_some, ni_succ, ih (i + 1) g (by omega) (by omega)]
    by_cases e : M (a + 1) i = M (b + 1) i
    · rw [if_pos e]
      congr 1
      apply pif_congr
      constructor
      · intro q j h1 h2
        by_cases ej : j = i
        · subst ej
          exact e
        · exact q j (by omega) h2
      · intro q j h1 h2
        exact q j (by omega) h2
    · rw [if_neg e, pif_neg fun q => e (q i (Nat.le_refl i) (by omega))]
theorem s_sameAs (ha : zrec sh n a) (hb : zrec sh n b) (hN : 100 < N) : f_Records_sameAs N (zl sh n A X M P) (A + a) (A + b) = some (pif (∀ j, j < 32 → M (a + 1) j = M (b + 1) j) 1 0) := by
  unfold f_Records_sameAs
  rw [show (0 : Int32) = ni 0 from rfl, s_sameAs_L ha hb 32 0 N (by omega) (by omega)]
  by_cases e : ∀ j, j < 32 → M (a + 1) j = M (b + 1) j
  · rw [pif_pos e, pif_pos fun j _ h => e j h]
    rfl
  · rw [pif_neg e, pif_neg fun q => e fun j h => q j (Nat.zero_le j) h]
    rfl
end ZREC
