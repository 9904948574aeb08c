/-! the class's primary: the steps of a new version -/
section ZPRIM
variable {A : Nat} {X : zh_T} {M F I J G K : Nat → Nat → Int32} {w e : Nat → Nat} {N : Nat}
/-- the fixed cells after step 3 of entry x -/
def prL (M J G K : Nat → Nat → Int32) (x : Nat) : Nat → Nat → Int32 := zu (zu M 171 (zmix 0 (M 171) (fun j => (M 171 j &&& (G x j ^^^ (-1))) ||| K x j))) 169 (upd (M 169) 6 (J x 2 + 1))
theorem s_becomeLatest {c : Nat} (hc : M 174 1 = ni c) (hc5 : c ≤ 5) (h1 : 1 ≤ c) (he : wperm e 5) (hN : 100 < N) : f_Primary_becomeLatest N (zC A X M F I J G K w e) (A + 169) =
    some ((), if c = 5 then zC A X (zu (prL M J G K (e (c - 1))) 174 (upd (M 174) 1 4)) F I J G K w (rot e 0 4) else zC A X (prL M J G K (e (c - 1))) F I J G K w e) := by
  unfold f_Primary_becomeLatest
  have hx := he.1 (c - 1) (by omega)
  simp only [cr169_2, zb1_some, ck174]
  rw [s_latest hc hc5, zb1_some, if_neg (show ¬ c = 0 by omega), zbo_some]
  simp only [cr169_0, zb1_some, e_g0 hx, e_g1 hx, ck170]
  rw [C_exch hx hN, zb2_some]
  simp only [e_gi hx (j := 2) rfl, zb1_some, cp169_6, cr169_2, ck174]
  have hk := s_keepLatest (N := N) (A := A) (X := X) (F := F) (I := I) (J := J) (G := G) (K := K) (w := w) (M := prL M J G K (e (c - 1))) (c := c) hc hc5 he hN
  show zb2 (f_Journal_keepLatest N (zC A X (prL M J G K (e (c - 1))) F I J G K w e) (A + 174)) (fun _ X26 => some ((), X26)) = _
  rw [hk, zb2_some]
  rfl
theorem s_step1 {c : Nat} (hc : M 174 1 = ni c) (hc5 : c < 5) (he : wperm e 5) (hN : 100 < N) : f_Primary_takeStep N (zC A X M F I J G K w e) (A + 169) 1 =
    some ((), zC A X (zu M 174 (upd (M 174) 1 (ni (c + 1)))) F I (zu J (e c) (upd (upd (J (e c)) 2 (M 169 6)) 3 0)) (zu G (e c) (zmix 0 (G (e c)) (fun j => M 171 j &&& (M 173 j ^^^ (-1))))) (zu K (e c) (zmix 0 (K (e c)) (fun j => M 173 j &&& (M 171 j ^^^ (-1))))) w e) := by
  unfold f_Primary_takeStep
  rw [if_pos rfl]
  simp only [cr169_2, zb1_some, cg169_6, cr169_0, cr169_1, ck174]
  rw [s_append_j hc hc5 he _ hN, zb2_some]
theorem s_step2 {c : Nat} (hc : M 174 1 = ni c) (hc5 : c ≤ 5) (h1 : 1 ≤ c) (he : wperm e 5) : f_Primary_takeStep N (zC A X M F I J G K w e) (A + 169) 2 =
    some ((), zC A X M F I (zu J (e (c - 1)) (upd (J (e (c - 1))) 3 1)) G K w e) := by
  unfold f_Primary_takeStep
  rw [if_neg (by decide), if_pos rfl]
  simp only [cr169_2, zb1_some, ck174]
  rw [s_markLatest hc hc5 h1 he, zb2_some]
theorem s_step3 {c : Nat} (hc : M 174 1 = ni c) (hc5 : c ≤ 5) (h1 : 1 ≤ c) (he : wperm e 5) (hN : 100 < N) : f_Primary_takeStep N (zC A X M F I J G K w e) (A + 169) 3 =
    some ((), if c = 5 then zC A X (zu (prL M J G K (e (c - 1))) 174 (upd (M 174) 1 4)) F I J G K w (rot e 0 4) else zC A X (prL M J G K (e (c - 1))) F I J G K w e) := by
  unfold f_Primary_takeStep
  rw [if_neg (by decide), if_neg (by decide), ck169, zb1_some, s_becomeLatest hc hc5 h1 he hN, zb2_some]
/-- after step 1 -/
def w1M (M : Nat → Nat → Int32) (c : Nat) : Nat → Nat → Int32 := zu M 174 (upd (M 174) 1 (ni (c + 1)))
def w1J (M J : Nat → Nat → Int32) (x : Nat) : Nat → Nat → Int32 := zu J x (upd (upd (J x) 2 (M 169 6)) 3 0)
def w1G (M G : Nat → Nat → Int32) (x : Nat) : Nat → Nat → Int32 := zu G x (zmix 0 (G x) (fun j => M 171 j &&& (M 173 j ^^^ (-1))))
def w1K (M K : Nat → Nat → Int32) (x : Nat) : Nat → Nat → Int32 := zu K x (zmix 0 (K x) (fun j => M 173 j &&& (M 171 j ^^^ (-1))))
def w2J (M J : Nat → Nat → Int32) (x : Nat) : Nat → Nat → Int32 := zu J x (upd (upd (upd (J x) 2 (M 169 6)) 3 0) 3 1)
theorem wN_unfold (f : Nat) (Y : zh_T) (v : Int32) : L_Primary_writeNext_2 N (A + 169) (f + 1) Y v = (if 3 < v then some (Sum.inr ((), Y)) else zb1 (zgi Y (A + 169) 4 7) fun v3 => if v = v3 then some (Sum.inl (0, Y)) else zb1 (zck Y (A + 169) 4) fun _ => zb2 (f_Primary_takeStep N Y (A + 169) v) fun _ X8 => L_Primary_writeNext_2 N (A + 169) f X8 (v + 1)) := by
  rw [L_Primary_writeNext_2]
theorem s_write1 (ha : M 169 7 = 1) (hN : 100 < N) : f_Primary_writeNext N (zC A X M F I J G K w e) (A + 169) = some (0, zC A X M F I J G K w e) := by
  obtain ⟨f, rfl⟩ : ∃ f, N = f + 1 := ⟨N - 1, by omega⟩
  unfold f_Primary_writeNext
  rw [wN_unfold, if_neg (by decide), cg169_7, zb1_some, ha, if_pos rfl]
  rfl
theorem s_write2 {c : Nat} (ha : M 169 7 = 2) (hc : M 174 1 = ni c) (hc5 : c < 5) (he : wperm e 5) (hN : 100 < N) : f_Primary_writeNext N (zC A X M F I J G K w e) (A + 169) = some (0, zC A X (w1M M c) F I (w1J M J (e c)) (w1G M G (e c)) (w1K M K (e c)) w e) := by
  obtain ⟨f, hf⟩ : ∃ f, N = f + 1 + 1 := ⟨N - 2, by omega⟩
  unfold f_Primary_writeNext
  rw [show L_Primary_writeNext_2 N (A + 169) N = L_Primary_writeNext_2 N (A + 169) (f + 1 + 1) from by rw [← hf]]
  rw [wN_unfold, if_neg (by decide), cg169_7, zb1_some, ha, if_neg (by decide), ck169, zb1_some, s_step1 hc hc5 he hN, zb2_some, wN_unfold, if_neg (by decide), cg169_7, zb1_some, zu_ne _ (by decide : (169 : Nat) ≠ 174), ha, if_pos (by decide)]
  rfl
theorem s_write3 {c : Nat} (ha : M 169 7 = 3) (hc : M 174 1 = ni c) (hc5 : c < 5) (he : wperm e 5) (hN : 100 < N) : f_Primary_writeNext N (zC A X M F I J G K w e) (A + 169) = some (0, zC A X (w1M M c) F I (w2J M J (e c)) (w1G M G (e c)) (w1K M K (e c)) w e) := by
  obtain ⟨f, hf⟩ : ∃ f, N = f + 1 + 1 + 1 := ⟨N - 3, by omega⟩
  unfold f_Primary_writeNext
  rw [show L_Primary_writeNext_2 N (A + 169) N = L_Primary_writeNext_2 N (A + 169) (f + 1 + 1 + 1) from by rw [← hf]]
  rw [wN_unfold, if_neg (by decide), cg169_7, zb1_some, ha, if_neg (by decide), ck169, zb1_some, s_step1 hc hc5 he hN, zb2_some, wN_unfold, if_neg (by decide), cg169_7, zb1_some, zu_ne _ (by decide : (169 : Nat) ≠ 174), ha, if_neg (by decide), ck169, zb1_some]
  rw [show (1 : Int32) + 1 = 2 from by decide, s_step2 (c := c + 1) (by rw [zu_same, upd_eq]) (by omega) (by omega) he, zb2_some, wN_unfold, if_neg (by decide), cg169_7, zb1_some, zu_ne _ (by decide : (169 : Nat) ≠ 174), ha, if_pos (by decide), Nat.add_sub_cancel, zu_zu, zu_same]
  rfl
theorem s_write0 {c : Nat} (ha : M 169 7 = 0) (hc : M 174 1 = ni c) (hc5 : c < 5) (he : wperm e 5) (hN : 100 < N) : f_Primary_writeNext N (zC A X M F I J G K w e) (A + 169) =
    some (1, if c = 4 then zC A X (zu (prL (w1M M c) (w2J M J (e c)) (w1G M G (e c)) (w1K M K (e c)) (e c)) 174 (upd (w1M M c 174) 1 4)) F I (w2J M J (e c)) (w1G M G (e c)) (w1K M K (e c)) w (rot e 0 4) else zC A X (prL (w1M M c) (w2J M J (e c)) (w1G M G (e c)) (w1K M K (e c)) (e c)) F I (w2J M J (e c)) (w1G M G (e c)) (w1K M K (e c)) w e) := by
  obtain ⟨f, hf⟩ : ∃ f, N = f + 1 + 1 + 1 + 1 := ⟨N - 4, by omega⟩
  unfold f_Primary_writeNext
  rw [show L_Primary_writeNext_2 N (A + 169) N = L_Primary_writeNext_2 N (A + 169) (f + 1 + 1 + 1 + 1) from by rw [← hf]]
  rw [wN_unfold, if_neg (by decide), cg169_7, zb1_some, ha, if_neg (by decide), ck169, zb1_some, s_step1 hc hc5 he hN, zb2_some, wN_unfold, if_neg (by decide), cg169_7, zb1_some, zu_ne _ (by decide : (169 : Nat) ≠ 174), ha, if_neg (by decide), ck169, zb1_some]
  rw [show (1 : Int32) + 1 = 2 from by decide, s_step2 (c := c + 1) (by rw [zu_same, upd_eq]) (by omega) (by omega) he, zb2_some, wN_unfold, if_neg (by decide), cg169_7, zb1_some, zu_ne _ (by decide : (169 : Nat) ≠ 174), ha, if_neg (by decide), Nat.add_sub_cancel, zu_zu, zu_same, ck169, zb1_some]
  rw [show (2 : Int32) + 1 = 3 from by decide]
  have h3 := s_step3 (N := N) (A := A) (X := X) (F := F) (I := I) (w := w) (M := w1M M c) (J := w2J M J (e c)) (G := w1G M G (e c)) (K := w1K M K (e c)) (e := e) (c := c + 1) (by unfold w1M; rw [zu_same, upd_eq]) (by omega) (by omega) he hN
  rw [Nat.add_sub_cancel] at h3
  have h4 : ∀ Y : zh_T, L_Primary_writeNext_2 N (A + 169) (f + 1) Y (3 + 1) = some (Sum.inr ((), Y)) := by
    intro Y
    rw [wN_unfold, if_pos (by decide)]
  show zbt (zb2 (f_Primary_takeStep N (zC A X (w1M M c) F I (w2J M J (e c)) (w1G M G (e c)) (w1K M K (e c)) w e) (A + 169) 3) fun _ X8 => L_Primary_writeNext_2 N (A + 169) (f + 1) X8 (3 + 1)) (fun r0 X0 => some (r0, X0)) (fun _ X11 => some (1, X11)) = _
  rw [h3, zb2_some, h4, zbt_inr]
  by_cases h5 : c = 4
  · rw [if_pos h5, if_pos (by omega)]
  · rw [if_neg h5, if_neg (by omega)]
end ZPRIM
