/-! Records: how many, the changes, the items -/
section ZREC2
variable {sh : Nat → zl_S} {n A : Nat} {X : zh_T} {M : Nat → Nat → Int32} {P : Nat → Nat → Nat} {N k a b : Nat}
theorem bc_all : ∀ v, v < 256 → f_Integer_bitCount 0 (fun _ => none, 0) (ni v) = some (ni (cnt (bt (ni v)) 0 8)) := by decide +kernel
theorem s_bitCount {x : Int32} (hx : byt x) : f_Integer_bitCount N X x = some (ni (cnt (bt x) 0 8)) := by
  obtain ⟨v, hv, rfl⟩ := byt_lt hx
  exact bc_all v hv
theorem s_total_L (h : zrec sh n k) (hg : okS (M (k + 1))) : ∀ (m i f w : Nat), i + m = 32 → m < f →
    L_Records_total_4 N (zl sh n A X M P) (A + k) f (ni w) (ni i) = some (ni (w + cnt (cs (M (k + 1))) (8 * i) (8 * m))) := by
  intro m
  induction m with
  | zero =>
    intro i f w h3 h4
    obtain ⟨g, rfl⟩ : ∃ g, f = g + 1 := ⟨f - 1, by omega⟩
    have e : i = 32 := by omega
    subst e
    rw [L_Records_total_4, zr1 h, zb1_some, zr3 h, zb1_some, if_pos (Int32.le_refl _)]
    rfl
  | succ m ih =>
    intro i f w h3 h4
    obtain ⟨g, rfl⟩ : ∃ g, f = g + 1 := ⟨f - 1, by omega⟩
    rw [L_Records_total_4, zr1 h, zb1_some, zr3 h, zb1_some, if_neg (fun q => absurd ((zle (i := i) (m := 32) (by omega) (by omega)).mp q) (by omega)), zb1_some, zr4 h (i := i) (by omega), zb1_some, s_bitCount (hg i (by omega)), zb1_some, ni_succ, ni_add, ih (i + 1) g _ (by omega) (by omega)]
    rw [cnt_byte, show 8 * (m + 1) = 8 + 8 * m by omega, cnt_add, show 8 * i + 8 = 8 * (i + 1) by omega, Nat.add_assoc]
theorem s_total (h : zrec sh n k) (hg : okS (M (k + 1))) (hN : 100 < N) : f_Records_total N (zl sh n A X M P) (A + k) = some (ni (cnt (cs (M (k + 1))) 0 256)) := by
  unfold f_Records_total
  have e := s_total_L (N := N) (A := A) (X := X) (P := P) h hg 32 0 N 0 (by omega) (by omega)
  rw [Nat.zero_add] at e
  rw [show (0 : Int32) = ni 0 from rfl, e, zb1_some]
/-! a row of the set, and what a change of it means -/
theorem cs_upd (g : Nat → Int32) (r : Nat) (x : Int32) (q : Nat) : cs (upd g r x) q = if q / 8 = r then bt x (q % 8) else cs g q := by
  unfold cs upd
  by_cases h : q / 8 = r
  · rw [if_pos h, if_pos h]
  · rw [if_neg h, if_neg h]
theorem okS_upd {g : Nat → Int32} {r : Nat} {x : Int32} (h : okS g) (hx : byt x) : okS (upd g r x) := by
  intro i hi
  by_cases e : i = r
  · subst e
    rw [upd_eq]
    exact hx
  · rw [upd_ne _ e]
    exact h i hi
theorem pl_row {nm ty v : Nat} (h2 : 1 ≤ ty) (h4 : v < 8) (q : Nat) : q = pl nm ty v ↔ q / 8 = 4 * nm + ty - 1 ∧ q % 8 = v := by
  unfold pl
  constructor
  · intro h
    omega
  · intro h
    omega
theorem cs_put {nm ty v : Nat} (g : Nat → Int32) (h2 : 1 ≤ ty) (h4 : v < 8) (q : Nat) : cs (upd g (4 * nm + ty - 1) (g (4 * nm + ty - 1) ||| (1 <<< (ni v &&& 31)))) q = sPut (cs g) (pl nm ty v) q := by
  rw [cs_upd]
  unfold sPut
  by_cases h : q / 8 = 4 * nm + ty - 1
  · rw [if_pos h, bt_or, bt_bit h4]
    unfold cs
    rw [h]
    congr 1
    apply decide_eq_decide.mpr
    rw [pl_row h2 h4]
    constructor
    · intro e
      exact ⟨h, e.symm⟩
    · intro e
      exact e.2.symm
  · rw [if_neg h, decide_eq_false (fun e => h ((pl_row h2 h4 q).mp e).1), Bool.or_false]
theorem cs_del {nm ty v : Nat} (g : Nat → Int32) (h2 : 1 ≤ ty) (h4 : v < 8) (q : Nat) : cs (upd g (4 * nm + ty - 1) (g (4 * nm + ty - 1) &&& ((1 <<< (ni v &&& 31)) ^^^ (-1)))) q = sDel (cs g) (pl nm ty v) q := by
  rw [cs_upd]
  unfold sDel
  by_cases h : q / 8 = 4 * nm + ty - 1
  · rw [if_pos h, bt_and, bt_not _ (by omega), bt_bit h4]
    unfold cs
    rw [h]
    congr 2
    apply decide_eq_decide.mpr
    rw [pl_row h2 h4]
    constructor
    · intro e
      exact ⟨h, e.symm⟩
    · intro e
      exact e.2.symm
  · rw [if_neg h, decide_eq_false (fun e => h ((pl_row h2 h4 q).mp e).1), Bool.not_false, Bool.and_true]
theorem cs_clr (g : Nat → Int32) (r q : Nat) : cs (upd g r 0) q = sClr (cs g) r q := by
  rw [cs_upd]
  unfold sClr
  by_cases h : q / 8 = r
  · rw [if_pos h, bt_zero]
    simp [h]
  · rw [if_neg h]
    simp [h]
theorem row_zero {g : Nat → Int32} (hg : okS g) {r : Nat} (hr : r < 32) : g r = 0 ↔ cnt (cs g) (8 * r) 8 = 0 := by
  rw [bt_eq0 (hg r hr), cnt_zero]
  constructor
  · intro h q h1 h2
    have e := h (q % 8) (by omega)
    unfold cs
    rw [show q / 8 = r by omega]
    exact e
  · intro h b hb
    have e := h (8 * r + b) (by omega) (by omega)
    rwa [cs_at g r hb] at e
/-- what is said of a change: the numbers after it, and the set that they are -/
def isChg (g g' : Nat → Int32) (s : Nat → Bool) : Prop := okS g' ∧ ∀ q, cs g' q = s q
theorem s_clear (h : zrec sh n k) {nm ty : Nat} (h1 : nm < 8) (h2 : 1 ≤ ty) (h3 : ty ≤ 4) (hg : okS (M (k + 1))) : ∃ g', f_Records_clearIfAllowed N (zl sh n A X M P) (A + k) (ni nm) (ni ty) = some ((), zl sh n A X (zu M (k + 1) g') P) ∧ isChg (M (k + 1)) g' (sClear (cs (M (k + 1))) nm ty) := by
  unfold f_Records_clearIfAllowed sClear
  have e0 : (ni nm = 0) ↔ nm = 0 := ni_inj (a := nm) (by omega) (b := 0) (by decide)
  have e3 : (ni ty = 3) ↔ ty = 3 := ni_inj (a := ty) (by omega) (b := 3) (by decide)
  have e : f_Records_setValues N (zl sh n A X M P) (A + k) (ni nm) (ni ty) 0 = some ((), zl sh n A X (zu M (k + 1) (upd (M (k + 1)) (4 * nm + ty - 1) 0)) P) := s_setValues h h1 h2 h3 0
  have hok := okS_upd (r := 4 * nm + ty - 1) hg byt_zero
  by_cases hn : nm = 0
  · rw [if_pos (e0.mpr hn)]
    by_cases ht : ty = 3
    · rw [if_pos (e3.mpr ht), if_pos ⟨hn, ht⟩]
      exact ⟨M (k + 1), by rw [zu_id], hg, fun q => rfl⟩
    · rw [if_neg (fun q => ht (e3.mp q)), if_neg (fun q => ht q.2), zr2 h, zb1_some, e, zb2_some]
      exact ⟨_, rfl, hok, fun q => cs_clr _ _ q⟩
  · rw [if_neg (fun q => hn (e0.mp q)), if_neg (fun q => hn q.1), zr2 h, zb1_some, e, zb2_some]
    exact ⟨_, rfl, hok, fun q => cs_clr _ _ q⟩
theorem other_iff {g : Nat → Int32} (hg : okS g) {nm : Nat} (h1 : nm < 8) : (∃ t, 1 ≤ t ∧ t ≤ 4 ∧ t ≠ 2 ∧ g (4 * nm + t - 1) ≠ 0) ↔ ¬ cnt (cs g) (32 * nm) 32 = cnt (cs g) (32 * nm + 8) 8 := by
  have r1 := row_zero hg (r := 4 * nm) (by omega)
  have r3 := row_zero hg (r := 4 * nm + 2) (by omega)
  have r4 := row_zero hg (r := 4 * nm + 3) (by omega)
  rw [show 8 * (4 * nm) = 32 * nm by omega] at r1
  rw [show 8 * (4 * nm + 2) = 32 * nm + 16 by omega] at r3
  rw [show 8 * (4 * nm + 3) = 32 * nm + 24 by omega] at r4
  have c1 : cnt (cs g) (32 * nm) 32 = cnt (cs g) (32 * nm) 8 + cnt (cs g) (32 * nm + 8) 24 := cnt_add (cs g) 8 (32 * nm) 24
  have c2 : cnt (cs g) (32 * nm + 8) 24 = cnt (cs g) (32 * nm + 8) 8 + cnt (cs g) (32 * nm + 16) 16 := cnt_add (cs g) 8 (32 * nm + 8) 16
  have c3 : cnt (cs g) (32 * nm + 16) 16 = cnt (cs g) (32 * nm + 16) 8 + cnt (cs g) (32 * nm + 24) 8 := cnt_add (cs g) 8 (32 * nm + 16) 8
  constructor
  · rintro ⟨t, t1, t2, t3, t4⟩ q
    have hz : cnt (cs g) (32 * nm) 8 = 0 ∧ cnt (cs g) (32 * nm + 16) 8 = 0 ∧ cnt (cs g) (32 * nm + 24) 8 = 0 := by omega
    have ht : t = 1 ∨ t = 3 ∨ t = 4 := by omega
    rcases ht with rfl | rfl | rfl
    · exact t4 (r1.mpr hz.1)
    · exact t4 (r3.mpr hz.2.1)
    · exact t4 (r4.mpr hz.2.2)
  · intro q
    by_cases q1 : cnt (cs g) (32 * nm) 8 = 0
    · by_cases q3 : cnt (cs g) (32 * nm + 16) 8 = 0
      · by_cases q4 : cnt (cs g) (32 * nm + 24) 8 = 0
        · exact absurd (by omega) q
        · exact ⟨4, by omega, by omega, by omega, fun z => q4 (r4.mp z)⟩
      · exact ⟨3, by omega, by omega, by omega, fun z => q3 (r3.mp z)⟩
    · exact ⟨1, by omega, by omega, by omega, fun z => q1 (r1.mp z)⟩
theorem used_iff {g : Nat → Int32} (hg : okS g) {nm : Nat} (h1 : nm < 8) : (∃ t, 1 ≤ t ∧ t ≤ 4 ∧ g (4 * nm + t - 1) ≠ 0) ↔ ¬ cnt (cs g) (32 * nm) 32 = 0 := by
  have r2 := row_zero hg (r := 4 * nm + 1) (by omega)
  rw [show 8 * (4 * nm + 1) = 32 * nm + 8 by omega] at r2
  have c1 : cnt (cs g) (32 * nm) 32 = cnt (cs g) (32 * nm) 8 + cnt (cs g) (32 * nm + 8) 24 := cnt_add (cs g) 8 (32 * nm) 24
  have c2 : cnt (cs g) (32 * nm + 8) 24 = cnt (cs g) (32 * nm + 8) 8 + cnt (cs g) (32 * nm + 16) 16 := cnt_add (cs g) 8 (32 * nm + 8) 16
  have ho := other_iff hg h1
  constructor
  · rintro ⟨t, t1, t2, t4⟩ q
    by_cases e : t = 2
    · subst e
      exact t4 (r2.mpr (by omega))
    · exact ho.mp ⟨t, t1, t2, e, t4⟩ (by omega)
  · intro q
    by_cases e : cnt (cs g) (32 * nm + 8) 8 = 0
    · obtain ⟨t, t1, t2, -, t4⟩ := ho.mpr (by omega)
      exact ⟨t, t1, t2, t4⟩
    · exact ⟨2, by omega, by omega, fun z => e (r2.mp z)⟩
theorem s_add (h : zrec sh n k) {nm ty v : Nat} (h1 : nm < 8) (h2 : 1 ≤ ty) (h3 : ty ≤ 4) (h4 : v < 8) (hg : okS (M (k + 1))) (hN : 100 < N) : ∃ g', f_Records_addIfAllowed N (zl sh n A X M P) (A + k) (ni nm) (ni ty) (ni v) = some ((), zl sh n A X (zu M (k + 1) g') P) ∧ isChg (M (k + 1)) g' (sAdd (cs (M (k + 1))) nm ty v) := by
  unfold f_Records_addIfAllowed sAdd
  have e0 : (ni nm = 0) ↔ nm = 0 := ni_inj (a := nm) (by omega) (b := 0) (by decide)
  have e2 : (ni ty = 2) ↔ ty = 2 := ni_inj (a := ty) (by omega) (b := 2) (by decide)
  by_cases ht : ty = 2
  · subst ht
    rw [if_pos (e2.mpr rfl), if_neg (show ¬ (2 : Nat) ≠ 2 from fun q => q rfl)]
    by_cases hn : nm = 0
    · rw [if_pos (e0.mpr hn), if_neg (show ¬ (nm ≠ 0 ∧ cnt (cs (M (k + 1))) (32 * nm) 32 = cnt (cs (M (k + 1))) (32 * nm + 8) 8) from fun q => q.1 hn)]
      exact ⟨M (k + 1), by rw [zu_id], hg, fun q => rfl⟩
    · rw [if_neg (fun q => hn (e0.mp q)), zr2 h, zb1_some, s_other h h1 hN, zb1_some]
      by_cases ho : cnt (cs (M (k + 1))) (32 * nm) 32 = cnt (cs (M (k + 1))) (32 * nm + 8) 8
      · have es : f_Records_setValues N (zl sh n A X M P) (A + k) (ni nm) 2 (1 <<< (ni v &&& 31)) = some ((), zl sh n A X (zu M (k + 1) (upd (M (k + 1)) (4 * nm + 2 - 1) (1 <<< (ni v &&& 31)))) P) := s_setValues h h1 h2 h3 _
        rw [pif_neg (fun q => (other_iff hg h1).mp q ho), if_pos rfl, zb1_some, es, zb2_some, if_pos (show (nm ≠ 0 ∧ cnt (cs (M (k + 1))) (32 * nm) 32 = cnt (cs (M (k + 1))) (32 * nm + 8) 8) from ⟨hn, ho⟩)]
        refine ⟨_, rfl, okS_upd hg (byt_bit h4), fun q => ?_⟩
        rw [cs_upd]
        unfold sPut sClr
        by_cases hr : q / 8 = 4 * nm + 2 - 1
        · rw [if_pos hr, bt_bit h4]
          have hr' : q / 8 = 4 * nm + 1 := by omega
          simp only [hr', decide_true, Bool.not_true, Bool.and_false, Bool.false_or]
          apply decide_eq_decide.mpr
          rw [pl_row h2 h4]
          constructor
          · intro e
            exact ⟨hr, e.symm⟩
          · intro e
            exact e.2.symm
        · rw [if_neg hr]
          have hr' : ¬ q / 8 = 4 * nm + 1 := by omega
          simp only [hr', decide_false, Bool.not_false, Bool.and_true]
          rw [decide_eq_false (fun e => hr ((pl_row h2 h4 q).mp e).1), Bool.or_false]
      · rw [pif_pos ((other_iff hg h1).mpr ho), if_neg (by decide), if_neg (show ¬ (nm ≠ 0 ∧ cnt (cs (M (k + 1))) (32 * nm) 32 = cnt (cs (M (k + 1))) (32 * nm + 8) 8) from fun q => ho q.2)]
        exact ⟨M (k + 1), by rw [zu_id], hg, fun q => rfl⟩
  · have ev : f_Records_valuesOf N (zl sh n A X M P) (A + k) (ni nm) 2 = some (M (k + 1) (4 * nm + 2 - 1)) := s_valuesOf h (ty := 2) h1 (by decide) (by decide)
    have hz := row_zero hg (r := 4 * nm + 2 - 1) (by omega)
    rw [show 8 * (4 * nm + 2 - 1) = 32 * nm + 8 by omega] at hz
    rw [if_neg (fun q => ht (e2.mp q)), if_pos ht, zr2 h, zb1_some, ev, zb1_some]
    by_cases ho : cnt (cs (M (k + 1))) (32 * nm + 8) 8 = 0
    · rw [if_pos (hz.mpr ho), if_pos ho, zb1_some, s_put h h1 h2 h3, zb2_some]
      exact ⟨_, rfl, okS_upd hg (byt_or (hg _ (by omega)) (byt_bit h4)), fun q => cs_put _ h2 h4 q⟩
    · rw [if_neg (fun q => ho (hz.mp q)), if_neg ho]
      exact ⟨M (k + 1), by rw [zu_id], hg, fun q => rfl⟩
theorem s_rem (h : zrec sh n k) {nm ty v : Nat} (h1 : nm < 8) (h2 : 1 ≤ ty) (h3 : ty ≤ 4) (h4 : v < 8) (hg : okS (M (k + 1))) : ∃ g', f_Records_removeIfAllowed N (zl sh n A X M P) (A + k) (ni nm) (ni ty) (ni v) = some ((), zl sh n A X (zu M (k + 1) g') P) ∧ isChg (M (k + 1)) g' (sRem (cs (M (k + 1))) nm ty v) := by
  unfold f_Records_removeIfAllowed sRem
  have e0 : (ni nm = 0) ↔ nm = 0 := ni_inj (a := nm) (by omega) (b := 0) (by decide)
  have e3 : (ni ty = 3) ↔ ty = 3 := ni_inj (a := ty) (by omega) (b := 3) (by decide)
  rw [zr2 h, zb1_some, s_valuesOf h h1 h2 h3, zb1_some, zb1_some, s_takeAway h h1 h2 h3, zb2_some]
  have del : ∀ s : Nat → Bool, (∀ q, sDel (cs (M (k + 1))) (pl nm ty v) q = s q) → ∃ g', some ((), zl sh n A X (zu M (k + 1) (upd (M (k + 1)) (4 * nm + ty - 1) (M (k + 1) (4 * nm + ty - 1) &&& ((1 <<< (ni v &&& 31)) ^^^ (-1))))) P) = some ((), zl sh n A X (zu M (k + 1) g') P) ∧ isChg (M (k + 1)) g' s :=
    fun s hs => ⟨_, rfl, okS_upd hg (byt_and _ (hg _ (by omega))), fun q => (cs_del _ h2 h4 q).trans (hs q)⟩
  by_cases hv : M (k + 1) (4 * nm + ty - 1) = 1 <<< (ni v &&& 31)
  · rw [if_pos hv]
    by_cases hn : nm = 0
    · rw [if_pos (e0.mpr hn)]
      by_cases ht : ty = 3
      · subst hn
        subst ht
        rw [if_pos (e3.mpr rfl)]
        have hc : cnt (cs (M (k + 1))) 16 8 = 1 := by
          have e := cnt_byte (M (k + 1)) (4 * 0 + 3 - 1)
          rw [hv] at e
          rw [show 8 * (4 * 0 + 3 - 1) = 16 by omega] at e
          rw [← e]
          have d : ∀ v, v < 8 → cnt (bt (1 <<< (ni v &&& 31))) 0 8 = 1 := by decide +kernel
          exact d v h4
        rw [if_pos ⟨rfl, rfl, hc⟩]
        exact ⟨M (k + 1), by rw [zu_id], hg, fun q => rfl⟩
      · rw [if_neg (fun q => ht (e3.mp q)), if_neg (fun q => ht q.2.1)]
        exact del _ fun q => rfl
    · rw [if_neg (fun q => hn (e0.mp q)), if_neg (fun q => hn q.1)]
      exact del _ fun q => rfl
  · rw [if_neg hv, ite_self, ite_self]
    apply del
    intro q
    by_cases hc : nm = 0 ∧ ty = 3 ∧ cnt (cs (M (k + 1))) 16 8 = 1
    · rw [if_pos hc]
      obtain ⟨rfl, rfl, hc⟩ := hc
      unfold sDel
      by_cases hq : q = pl 0 3 v
      · subst hq
        have hz : cs (M (k + 1)) (pl 0 3 v) = false := by
          cases hb : cs (M (k + 1)) (pl 0 3 v) with
          | false => rfl
          | true =>
            exfalso
            apply hv
            apply bt_ext (hg _ (by omega)) (byt_bit h4)
            intro b hb8
            rw [bt_bit h4]
            by_cases hbv : v = b
            · subst hbv
              have : cs (M (k + 1)) (pl 0 3 v) = bt (M (k + 1) (4 * 0 + 3 - 1)) v := by
                unfold cs pl
                rw [show (32 * 0 + 8 * (3 - 1) + v) / 8 = 4 * 0 + 3 - 1 by omega, show (32 * 0 + 8 * (3 - 1) + v) % 8 = v by omega]
              rw [← this, hb]
              simp
            · rw [decide_eq_false hbv]
              cases hbb : bt (M (k + 1) (4 * 0 + 3 - 1)) b with
              | false => rfl
              | true =>
                exfalso
                have h2' := cnt_two (s := cs (M (k + 1))) (o := 16) (n := 8) (p := 16 + v) (q := 16 + b) (by omega) (by omega) (by omega) (by omega) (by omega) (by rw [show 16 + v = pl 0 3 v by unfold pl; omega]; exact hb) (by
                  rw [show 16 + b = 8 * (4 * 0 + 3 - 1) + b by omega, cs_at _ _ hb8]
                  exact hbb)
                omega
        rw [hz]
        rfl
      · simp [hq]
    · rw [if_neg hc]
end ZREC2
