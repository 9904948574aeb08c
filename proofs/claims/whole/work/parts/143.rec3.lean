/-! Records: a change by its code, an item by its code, the list of items -/
section ZREC3
variable {sh : Nat → zl_S} {n A : Nat} {X : zh_T} {M : Nat → Nat → Int32} {P : Nat → Nat → Nat} {N k a b : Nat}
theorem s_formOf {f nm ty v : Nat} (hf : f < 10) (h1 : nm < 8) (h3 : ty ≤ 4) (h4 : v < 8) : f_ZoneNodes_formOf N X (cd f nm ty v) = some (ni f) := by
  unfold f_ZoneNodes_formOf cd
  rw [show (1000 : Int32) = ni 1000 from rfl, ni_div (by omega) (by decide)]
  congr 2
  omega
theorem s_nameOf {f nm ty v : Nat} (hf : f < 10) (h1 : nm < 8) (h3 : ty ≤ 4) (h4 : v < 8) : f_ZoneNodes_nameOf N X (cd f nm ty v) = some (ni nm) := by
  unfold f_ZoneNodes_nameOf cd
  rw [show (100 : Int32) = ni 100 from rfl, show (10 : Int32) = ni 10 from rfl, ni_div (a := 1000 * f + 100 * nm + 10 * ty + v) (b := 100) (by omega) (by decide), ni_rem (a := (1000 * f + 100 * nm + 10 * ty + v) / 100) (b := 10) (by omega) (by decide)]
  congr 2
  omega
theorem s_typeOf {f nm ty v : Nat} (hf : f < 10) (h1 : nm < 8) (h3 : ty ≤ 4) (h4 : v < 8) : f_ZoneNodes_typeOf N X (cd f nm ty v) = some (ni ty) := by
  unfold f_ZoneNodes_typeOf cd
  rw [show (10 : Int32) = ni 10 from rfl, ni_div (a := 1000 * f + 100 * nm + 10 * ty + v) (b := 10) (by omega) (by decide), ni_rem (a := (1000 * f + 100 * nm + 10 * ty + v) / 10) (b := 10) (by omega) (by decide)]
  congr 2
  omega
theorem s_valueOf {f nm ty v : Nat} (hf : f < 10) (h1 : nm < 8) (h3 : ty ≤ 4) (h4 : v < 8) : f_ZoneNodes_valueOf N X (cd f nm ty v) = some (ni v) := by
  unfold f_ZoneNodes_valueOf cd
  rw [show (10 : Int32) = ni 10 from rfl, ni_rem (a := 1000 * f + 100 * nm + 10 * ty + v) (b := 10) (by omega) (by decide)]
  congr 2
  omega
theorem s_coded (f nm ty v : Nat) : f_ZoneNodes_coded N X (ni f) (ni nm) (ni ty) (ni v) = some (cd f nm ty v) := by
  unfold f_ZoneNodes_coded cd
  rw [show (1000 : Int32) = ni 1000 from rfl, show (100 : Int32) = ni 100 from rfl, show (10 : Int32) = ni 10 from rfl, ni_mul, ni_mul, ni_mul, ni_add, ni_add, ni_add]
/-- the types from ty on of a name go, but for the apex's SERVERs -/
def sWipeFrom (s : Nat → Bool) (nm ty : Nat) : Nat → Bool := fun q => s q && !(decide (q / 32 = nm) && decide (ty ≤ q / 8 % 4 + 1) && !decide (q / 8 = 2))
theorem wipe_step (s : Nat → Bool) {nm ty : Nat} (h2 : 1 ≤ ty) (h3 : ty ≤ 4) (q : Nat) : sWipeFrom (sClear s nm ty) nm (ty + 1) q = sWipeFrom s nm ty q := by
  unfold sWipeFrom sClear sClr
  cases hs : s q with
  | false =>
    by_cases h : nm = 0 ∧ ty = 3
    · rw [if_pos h, hs, Bool.false_and, Bool.false_and]
    · rw [if_neg h]
      simp [hs]
  | true =>
    by_cases h : nm = 0 ∧ ty = 3
    · rw [if_pos h, hs, Bool.true_and, Bool.true_and]
      congr 1
      rw [Bool.eq_iff_iff]
      simp only [Bool.and_eq_true, Bool.not_eq_true', decide_eq_true_eq, decide_eq_false_iff_not]
      omega
    · rw [if_neg h]
      simp only [hs, Bool.true_and]
      rw [Bool.eq_iff_iff]
      simp only [Bool.and_eq_true, Bool.not_eq_true', Bool.and_eq_false_iff, Bool.not_eq_false', decide_eq_true_eq, decide_eq_false_iff_not]
      omega
theorem wipe_congr {s t : Nat → Bool} (h : ∀ q, s q = t q) (nm ty q : Nat) : sWipeFrom s nm ty q = sWipeFrom t nm ty q := by
  unfold sWipeFrom
  rw [h q]
theorem s_wipe_L (h : zrec sh n k) {nm : Nat} (h1 : nm < 8) : ∀ (m ty f : Nat) (M : Nat → Nat → Int32), okS (M (k + 1)) → 1 ≤ ty → ty + m = 5 → m < f →
    ∃ g', L_Records_makeChange_71 N (A + k) (ni nm) f (zl sh n A X M P) (ni ty) = some ((), zl sh n A X (zu M (k + 1) g') P) ∧ isChg (M (k + 1)) g' (sWipeFrom (cs (M (k + 1))) nm ty) := by
  intro m
  induction m with
  | zero =>
    intro ty f M hg h2 h3 h4
    obtain ⟨g, rfl⟩ : ∃ g, f = g + 1 := ⟨f - 1, by omega⟩
    rw [L_Records_makeChange_71, if_pos (show (4 : Int32) < ni ty from (ni_lt (a := 4) (by decide) (b := ty) (by omega)).mpr (by omega))]
    refine ⟨M (k + 1), by rw [zu_id], hg, fun q => ?_⟩
    unfold sWipeFrom
    rw [decide_eq_false (p := ty ≤ q / 8 % 4 + 1) (by omega)]
    simp
  | succ m ih =>
    intro ty f M hg h2 h3 h4
    obtain ⟨g, rfl⟩ : ∃ g, f = g + 1 := ⟨f - 1, by omega⟩
    obtain ⟨g1, e1, hg1, hs1⟩ := s_clear (N := N) (A := A) (X := X) (P := P) h h1 h2 (show ty ≤ 4 by omega) hg
    rw [L_Records_makeChange_71, if_neg (show ¬ (4 : Int32) < ni ty from fun q => absurd ((ni_lt (a := 4) (by decide) (b := ty) (by omega)).mp q) (by omega)), zr2 h, zb1_some, e1, zb2_some, ni_succ]
    obtain ⟨g2, e2, hg2, hs2⟩ := ih (ty + 1) g (zu M (k + 1) g1) (by rw [zu_same]; exact hg1) (by omega) (by omega) (by omega)
    rw [zu_zu] at e2
    rw [zu_same] at hs2
    refine ⟨g2, e2, hg2, fun q => ?_⟩
    rw [hs2 q, wipe_congr hs1, wipe_step _ h2 (by omega)]
theorem s_makeChange (h : zrec sh n k) {f nm ty v : Nat} (hf : f < 4) (h1 : nm < 8) (h2 : 1 ≤ ty) (h3 : ty ≤ 4) (h4 : v < 8) (hg : okS (M (k + 1))) (hN : 100 < N) : ∃ g', f_Records_makeChange N (zl sh n A X M P) (A + k) (cd f nm ty v) = some ((), zl sh n A X (zu M (k + 1) g') P) ∧ isChg (M (k + 1)) g' (chg (cs (M (k + 1))) f nm ty v) := by
  unfold f_Records_makeChange chg
  rw [s_nameOf (by omega) h1 h3 h4, zb1_some, s_typeOf (by omega) h1 h3 h4, zb1_some, s_valueOf (by omega) h1 h3 h4, zb1_some, s_formOf (by omega) h1 h3 h4, zb1_some]
  have e0 : (ni f = 0) ↔ f = 0 := ni_inj (a := f) (by omega) (b := 0) (by decide)
  have e1 : (ni f = 1) ↔ f = 1 := ni_inj (a := f) (by omega) (b := 1) (by decide)
  have e2 : (ni f = 2) ↔ f = 2 := ni_inj (a := f) (by omega) (b := 2) (by decide)
  by_cases f0 : f = 0
  · obtain ⟨g', q1, q2⟩ := s_add (N := N) (A := A) (X := X) (P := P) h h1 h2 h3 h4 hg hN
    rw [if_pos (e0.mpr f0), if_pos f0, zr2 h, zb1_some, q1, zb2_some]
    exact ⟨g', rfl, q2⟩
  · rw [if_neg (fun q => f0 (e0.mp q)), if_neg f0]
    by_cases f1 : f = 1
    · obtain ⟨g', q1, q2⟩ := s_clear (N := N) (A := A) (X := X) (P := P) h h1 h2 h3 hg
      rw [if_pos (e1.mpr f1), if_pos f1, zr2 h, zb1_some, q1, zb2_some]
      exact ⟨g', rfl, q2⟩
    · rw [if_neg (fun q => f1 (e1.mp q)), if_neg f1]
      by_cases f2 : f = 2
      · obtain ⟨g', q1, q2, q3⟩ := s_wipe_L (N := N) (A := A) (X := X) (P := P) h h1 4 1 N M hg (by omega) (by omega) (by omega)
        have q1' : L_Records_makeChange_71 N (A + k) (ni nm) N (zl sh n A X M P) 1 = some ((), zl sh n A X (zu M (k + 1) g') P) := q1
        rw [if_pos (e2.mpr f2), if_pos f2, q1', zb2_some]
        refine ⟨g', rfl, q2, fun q => ?_⟩
        rw [q3 q]
        unfold sWipeFrom sWipe
        simp
      · obtain ⟨g', q1, q2⟩ := s_rem (N := N) (A := A) (X := X) (P := P) h h1 h2 h3 h4 hg
        rw [if_neg (fun q => f2 (e2.mp q)), if_neg f2, zr2 h, zb1_some, q1, zb2_some]
        exact ⟨g', rfl, q2⟩
/-- an item goes or comes -/
def sItem (s : Nat → Bool) (f q : Nat) : Nat → Bool := if f = 1 then sDel s q else sPut s q
theorem cod_cd (f q : Nat) : cod f q = cd f (q / 32) (q / 8 % 4 + 1) (q % 8) := rfl
theorem pl_of (q : Nat) : pl (q / 32) (q / 8 % 4 + 1) (q % 8) = q := by
  unfold pl
  omega
theorem s_takeItem (h : zrec sh n k) {f q : Nat} (hf : f < 2) (hq : q < 256) (hg : okS (M (k + 1))) : ∃ g', f_Records_takeItem N (zl sh n A X M P) (A + k) (cod f q) = some ((), zl sh n A X (zu M (k + 1) g') P) ∧ isChg (M (k + 1)) g' (sItem (cs (M (k + 1))) f q) := by
  unfold f_Records_takeItem sItem
  have h1 : q / 32 < 8 := by omega
  have h3 : q / 8 % 4 + 1 ≤ 4 := by omega
  have h4 : q % 8 < 8 := by omega
  rw [cod_cd, s_nameOf (by omega) h1 h3 h4, s_typeOf (by omega) h1 h3 h4, s_valueOf (by omega) h1 h3 h4, s_formOf (by omega) h1 h3 h4, zb1_some, zb1_some, zb1_some, zb1_some, zr2 h, zb1_some, zb1_some, zb1_some, zb1_some, zb1_some]
  have e1 : (ni f = 1) ↔ f = 1 := ni_inj (a := f) (by omega) (b := 1) (by decide)
  by_cases f1 : f = 1
  · rw [if_pos (e1.mpr f1), if_pos f1, s_takeAway h h1 (by omega) h3, zb2_some]
    refine ⟨_, rfl, okS_upd hg (byt_and _ (hg _ (by omega))), fun p => ?_⟩
    rw [cs_del _ (by omega) h4, pl_of]
  · rw [if_neg (fun z => f1 (e1.mp z)), if_neg f1, s_put h h1 (by omega) h3, zb2_some]
    refine ⟨_, rfl, okS_upd hg (byt_or (hg _ (by omega)) (byt_bit h4)), fun p => ?_⟩
    rw [cs_put _ (by omega) h4, pl_of]
theorem s_list_in (h : zrec sh n k) {d f i : Nat} (hd : d < n) (hsd : sh d = .inr (.inl (0, 112))) (hdk : d ≠ k + 1) (hi : i < 32) : ∀ (m v fu c : Nat) (M : Nat → Nat → Int32), v + m = 8 → m < fu → c + cnt (cs (M (k + 1))) (8 * i + v) m ≤ 112 →
    L_Records_listInto_19 N (A + k) (A + d) (ni f) (ni i) fu (zl sh n A X M P) (ni c) (ni v) = some (ni (c + cnt (cs (M (k + 1))) (8 * i + v) m), zl sh n A X (zu M d (wr (M d) c (lst (cs (M (k + 1))) f (8 * i + v) m))) P) := by
  intro m
  induction m with
  | zero =>
    intro v fu c M h3 h4 h5
    obtain ⟨g, rfl⟩ : ∃ g, fu = g + 1 := ⟨fu - 1, by omega⟩
    rw [L_Records_listInto_19, if_pos (show (8 : Int32) ≤ ni v from (ni_le (a := 8) (by decide) (b := v) (by omega)).mpr (by omega))]
    show some (ni c, zl sh n A X M P) = some (ni c, zl sh n A X (zu M d (M d)) P)
    rw [zu_id]
  | succ m ih =>
    intro v fu c M h3 h4 h5
    obtain ⟨g, rfl⟩ : ∃ g, fu = g + 1 := ⟨fu - 1, by omega⟩
    have hb : cs (M (k + 1)) (8 * i + v) = bt (M (k + 1) i) v := cs_at _ _ (by omega)
    rw [L_Records_listInto_19, if_neg (show ¬ (8 : Int32) ≤ ni v from fun q => absurd ((ni_le (a := 8) (by decide) (b := v) (by omega)).mp q) (by omega)), zr1 h, zb1_some, zr4 h hi, zb1_some]
    unfold lst
    rw [cnt] at h5 ⊢
    by_cases e : bt (M (k + 1) i) v = true
    · rw [hb, if_pos e] at h5
      rw [if_pos ((bt_shr (show v < 8 by omega) _).mpr e), zl_ln hd hsd, zb1_some, if_neg (fun q => absurd ((ni_le (a := 112) (by decide) (b := c) (by omega)).mp q) (by omega))]
      have ec : f_ZoneNodes_coded N (zl sh n A X M P) (ni f) (ni i / 4) (zi_rem (ni i) 4 + 1) (ni v) = some (cod f (8 * i + v)) := by
        rw [show (4 : Int32) = ni 4 from rfl, ni_div (a := i) (b := 4) (by omega) (by decide), ni_rem (a := i) (b := 4) (by omega) (by decide), ni_succ, s_coded, cod_cd]
        congr 2 <;> omega
      rw [ec, zb1_some, zl_si hd hsd (i := c) (by omega) (by decide), zb1_some, ni_succ, ni_succ, ih (v + 1) g (c + 1) _ (by omega) (by omega) (by rw [zu_ne _ (Ne.symm hdk), show 8 * i + (v + 1) = 8 * i + v + 1 by omega]; omega)]
      rw [zu_zu, zu_same, zu_ne _ (Ne.symm hdk), hb, if_pos e, if_pos e, show 8 * i + (v + 1) = 8 * i + v + 1 by omega, Nat.add_assoc, Nat.add_comm 1]
      rw [wr]
    · rw [hb, if_neg e] at h5
      rw [if_neg (fun q => e ((bt_shr (show v < 8 by omega) _).mp q)), ni_succ, ih (v + 1) g c M (by omega) (by omega) (by rw [show 8 * i + (v + 1) = 8 * i + v + 1 by omega]; omega)]
      rw [hb, if_neg e, if_neg e, show 8 * i + (v + 1) = 8 * i + v + 1 by omega, Nat.zero_add]
theorem s_list_L (h : zrec sh n k) {d f : Nat} (hd : d < n) (hsd : sh d = .inr (.inl (0, 112))) (hdk : d ≠ k + 1) (hN : 100 < N) : ∀ (m i fu c : Nat) (M : Nat → Nat → Int32), i + m = 32 → m < fu → c + cnt (cs (M (k + 1))) (8 * i) (8 * m) ≤ 112 →
    L_Records_listInto_6 N (A + k) (A + d) (ni f) fu (zl sh n A X M P) (ni c) (ni i) = some (ni (c + cnt (cs (M (k + 1))) (8 * i) (8 * m)), zl sh n A X (zu M d (wr (M d) c (lst (cs (M (k + 1))) f (8 * i) (8 * m)))) P) := by
  intro m
  induction m with
  | zero =>
    intro i fu c M h3 h4 h5
    obtain ⟨g, rfl⟩ : ∃ g, fu = g + 1 := ⟨fu - 1, by omega⟩
    have e : i = 32 := by omega
    subst e
    rw [L_Records_listInto_6, zr1 h, zb1_some, zr3 h, zb1_some, if_pos (Int32.le_refl _)]
    show some (ni c, zl sh n A X M P) = some (ni c, zl sh n A X (zu M d (M d)) P)
    rw [zu_id]
  | succ m ih =>
    intro i fu c M h3 h4 h5
    obtain ⟨g, rfl⟩ : ∃ g, fu = g + 1 := ⟨fu - 1, by omega⟩
    have ec := cnt_add (cs (M (k + 1))) 8 (8 * i) (8 * m)
    have el := lst_add (cs (M (k + 1))) f 8 (8 * i) (8 * m)
    rw [show 8 + 8 * m = 8 * (m + 1) by omega, show 8 * i + 8 = 8 * (i + 1) by omega] at ec el
    have e1 := s_list_in (N := N) (A := A) (X := X) (P := P) (f := f) h hd hsd hdk (show i < 32 by omega) 8 0 N c M (by omega) (by omega) (by show c + cnt (cs (M (k + 1))) (8 * i) 8 ≤ 112; omega)
    simp only [Nat.add_zero] at e1
    rw [L_Records_listInto_6, zr1 h, zb1_some, zr3 h, zb1_some, if_neg (fun q => absurd ((zle (i := i) (m := 32) (by omega) (by omega)).mp q) (by omega)), show (0 : Int32) = ni 0 from rfl, e1, zb2_some, ni_succ, ih (i + 1) g _ _ (by omega) (by omega) (by rw [zu_ne _ (Ne.symm hdk)]; omega)]
    rw [zu_zu, zu_same, zu_ne _ (Ne.symm hdk), ec, el, wr_app, lst_len, Nat.add_assoc]
theorem s_listInto (h : zrec sh n k) {d f c : Nat} (hd : d < n) (hsd : sh d = .inr (.inl (0, 112))) (hdk : d ≠ k + 1) (hN : 100 < N) (hc : c + cnt (cs (M (k + 1))) 0 256 ≤ 112) :
    f_Records_listInto N (zl sh n A X M P) (A + k) (A + d) (ni c) (ni f) = some (ni (c + cnt (cs (M (k + 1))) 0 256), zl sh n A X (zu M d (wr (M d) c (lst (cs (M (k + 1))) f 0 256))) P) := by
  unfold f_Records_listInto
  have e := s_list_L (N := N) (A := A) (X := X) (P := P) (f := f) h hd hsd hdk hN 32 0 N c M (by omega) (by omega) hc
  rw [show (0 : Int32) = ni 0 from rfl, e, zb2_some]
/-! what a query finds -/
theorem s_lookUp_end (h : zrec sh n k) {nm ty : Nat} (h1 : nm < 8) (h2 : 1 ≤ ty) (h3 : ty ≤ 4) (hg : okS (M (k + 1))) (hN : 100 < N) :
    (zb1 (f_Records_isUsed N (zl sh n A X M P) (A + k) (ni nm)) fun v9 => if v9 = 0 then some (Sum.inl (β := Unit) (300 : Int32)) else zb1 (zck (zl sh n A X M P) (A + k) 5) fun _ => zb1 (f_Records_valuesOf N (zl sh n A X M P) (A + k) (ni nm) (ni ty)) fun v13 => zb1 (f_Integer_bitCount N (zl sh n A X M P) v13) fun v15 => some (Sum.inl v15))
      = some (Sum.inl (if cnt (cs (M (k + 1))) (32 * nm) 32 = 0 then 300 else ni (cnt (cs (M (k + 1))) (32 * nm + 8 * (ty - 1)) 8))) := by
  rw [s_isUsed h h1 hN, zb1_some, zr2 h, zb1_some, s_valuesOf h h1 h2 h3, zb1_some, s_bitCount (hg _ (by omega)), zb1_some, cnt_byte, show 8 * (4 * nm + ty - 1) = 32 * nm + 8 * (ty - 1) by omega]
  by_cases e : cnt (cs (M (k + 1))) (32 * nm) 32 = 0
  · rw [pif_neg (fun q => (used_iff hg h1).mp q e), if_pos rfl, if_pos e]
  · rw [pif_pos ((used_iff hg h1).mpr e), if_neg (by decide), if_neg e]
end ZREC3
