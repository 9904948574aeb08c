/-! the class's primary: it comes up; what a FETCH asks for -/
theorem zu_comm {a b : Nat} (h : a ≠ b) (M : Nat → Nat → Int32) (f g : Nat → Int32) : zu (zu M a f) b g = zu (zu M b g) a f := by
  funext i
  unfold zu
  by_cases h1 : i = b
  · have h2 : ¬ i = a := fun q => h (q.symm.trans h1)
    rw [if_pos h1, if_neg h2, if_pos h1]
  · rw [if_neg h1]
    by_cases h2 : i = a
    · rw [if_pos h2, if_pos h2]
    · rw [if_neg h2, if_neg h2, if_neg h1]
theorem upd_upd (g : Nat → Int32) (i : Nat) (v v' : Int32) : upd (upd g i v) i v' = upd g i v' := by
  funext j
  unfold upd
  by_cases h : j = i
  · rw [if_pos h, if_pos h]
  · rw [if_neg h, if_neg h, if_neg h]
section ZPRIM2
variable {A : Nat} {X : zh_T} {M F I J G K : Nat → Nat → Int32} {w e : Nat → Nat} {N : Nat}
def prU (M : Nat → Nat → Int32) : Nat → Nat → Int32 := zu M 169 (upd (M 169) 8 1)
theorem s_pUp_none (hc : M 174 1 = ni 0) : f_Primary_comeUp N (zC A X M F I J G K w e) (A + 169) = some ((), zC A X (prU M) F I J G K w e) := by
  unfold f_Primary_comeUp
  rw [cz169_8 (Or.inr rfl), zb1_some, show zu M 169 (upd (M 169) 8 1) = prU M from rfl, cr169_2, zb1_some, ck174, zb1_some, s_latest (M := prU M) (c := 0) hc (by decide), zb1_some, if_pos rfl, zbo_none]
theorem s_pUp_other {c : Nat} (hc : M 174 1 = ni c) (hc5 : c ≤ 5) (h1 : 1 ≤ c) (he : wperm e 5) (hs : J (e (c - 1)) 2 ≠ M 169 6) : f_Primary_comeUp N (zC A X M F I J G K w e) (A + 169) = some ((), zC A X (prU M) F I J G K w e) := by
  unfold f_Primary_comeUp
  have hx := he.1 (c - 1) (by omega)
  rw [cz169_8 (Or.inr rfl), zb1_some, show zu M 169 (upd (M 169) 8 1) = prU M from rfl, cr169_2, zb1_some, ck174, zb1_some, s_latest (M := prU M) (c := c) hc hc5, zb1_some, if_neg (show ¬ c = 0 by omega), zbo_some]
  simp only [e_gi hx (j := 2) rfl, zb1_some, cg169_6]
  rw [if_neg (show ¬ J (e (c - 1)) 2 = prU M 169 6 from hs)]
theorem s_pUp_drop {c : Nat} (hc : M 174 1 = ni c) (hc5 : c ≤ 5) (h1 : 1 ≤ c) (he : wperm e 5) (hs : J (e (c - 1)) 2 = M 169 6) (hm : J (e (c - 1)) 3 = 0) : f_Primary_comeUp N (zC A X M F I J G K w e) (A + 169) = some ((), zC A X (zu (prU M) 174 (upd (M 174) 1 (ni (c - 1)))) F I J G K w e) := by
  unfold f_Primary_comeUp
  have hx := he.1 (c - 1) (by omega)
  rw [cz169_8 (Or.inr rfl), zb1_some, show zu M 169 (upd (M 169) 8 1) = prU M from rfl, cr169_2, zb1_some, ck174, zb1_some, s_latest (M := prU M) (c := c) hc hc5, zb1_some, if_neg (show ¬ c = 0 by omega), zbo_some]
  simp only [e_gi hx (j := 2) rfl, zb1_some, cg169_6]
  rw [if_pos (show J (e (c - 1)) 2 = prU M 169 6 from hs)]
  simp only [e_gi hx (j := 3) rfl, zb1_some, hm, if_true, cr169_2, ck174]
  rw [s_dropLatest (M := prU M) (c := c) hc hc5 h1, zb2_some]
  rfl
theorem s_pUp_do {c : Nat} (hc : M 174 1 = ni c) (hc5 : c ≤ 5) (h1 : 1 ≤ c) (he : wperm e 5) (hs : J (e (c - 1)) 2 = M 169 6) (hm : J (e (c - 1)) 3 ≠ 0) (hN : 100 < N) : f_Primary_comeUp N (zC A X M F I J G K w e) (A + 169) =
    some ((), if c = 5 then zC A X (zu (prL (prU M) J G K (e (c - 1))) 174 (upd (M 174) 1 4)) F I J G K w (rot e 0 4) else zC A X (prL (prU M) J G K (e (c - 1))) F I J G K w e) := by
  unfold f_Primary_comeUp
  have hx := he.1 (c - 1) (by omega)
  rw [cz169_8 (Or.inr rfl), zb1_some, show zu M 169 (upd (M 169) 8 1) = prU M from rfl, cr169_2, zb1_some, ck174, zb1_some, s_latest (M := prU M) (c := c) hc hc5, zb1_some, if_neg (show ¬ c = 0 by omega), zbo_some]
  simp only [e_gi hx (j := 2) rfl, zb1_some, cg169_6]
  rw [if_pos (show J (e (c - 1)) 2 = prU M 169 6 from hs)]
  simp only [e_gi hx (j := 3) rfl, zb1_some, if_neg hm, ck169]
  rw [s_becomeLatest (M := prU M) (c := c) hc hc5 h1 he hN, zb2_some]
  rfl
/-! entries whose serials follow each other -/
theorem s_leads_L {c : Nat} {b0 : Int32} (hc : M 174 1 = ni c) (hc5 : c ≤ 5) (he : wperm e 5) (hJ : ∀ i, i < c → J (e i) 2 = b0 + ni i) (t : Int32) : ∀ (m i f : Nat), i + m = c → m < f →
    L_Journal_leadsTo_13 N (zC A X M F I J G K w e) (A + 174) t f (b0 + ni i) (ni i) = some (.inr (b0 + ni c)) := by
  intro m
  induction m with
  | zero =>
    intro i f h3 h4
    obtain ⟨g, rfl⟩ : ∃ g, f = g + 1 := ⟨f - 1, by omega⟩
    have hi : i = c := by omega
    subst hi
    rw [L_Journal_leadsTo_13, cg174_1, zb1_some, hc, if_pos (Int32.le_refl _)]
  | succ m ih =>
    intro i f h3 h4
    obtain ⟨g, rfl⟩ : ∃ g, f = g + 1 := ⟨f - 1, by omega⟩
    have hx := he.1 i (by omega)
    rw [L_Journal_leadsTo_13, cg174_1, zb1_some, hc, if_neg (fun q => absurd ((zle (i := i) (m := c) (by omega) (by omega)).mp q) (by omega))]
    simp only [cr174_0, zb1_some, e_ar (show i < 5 by omega), e_gi hx (j := 2) rfl]
    rw [if_pos (hJ i (by omega)), Int32.add_assoc, ni_succ, ih (i + 1) g (by omega) (by omega)]
theorem s_way_L {c : Nat} {b0 : Int32} (hc : M 174 1 = ni c) (hc5 : c ≤ 5) (he : wperm e 5) (hJ : ∀ i, i < c → J (e i) 2 = b0 + ni i) (hN : 100 < N) (k : Nat) (hk : k < c) : ∀ (m i f : Nat), i + m = k → m < f →
    L_Journal_startOfWay_2 N (zC A X M F I J G K w e) (A + 174) (b0 + ni k) (b0 + ni c) f (ni i) = some (.inl (ni k)) := by
  intro m
  induction m with
  | zero =>
    intro i f h3 h4
    obtain ⟨g, rfl⟩ : ∃ g, f = g + 1 := ⟨f - 1, by omega⟩
    have hi : i = k := by omega
    subst hi
    have hx := he.1 i (by omega)
    rw [L_Journal_startOfWay_2, cg174_1, zb1_some, hc, if_neg (fun q => absurd ((zle (i := i) (m := c) (by omega) (by omega)).mp q) (by omega))]
    simp only [cr174_0, zb1_some, e_ar (show i < 5 by omega), e_gi hx (j := 2) rfl]
    rw [if_pos (hJ i hk), ck174, zb1_some]
    unfold f_Journal_leadsTo
    simp only [cr174_0, zb1_some, e_ar (show i < 5 by omega), e_gi hx (j := 2) rfl, hJ i hk]
    rw [s_leads_L hc hc5 he hJ _ (c - i) i N (by omega) (by omega), zbs_inr, if_pos rfl, zb1_some, if_neg (by decide)]
  | succ m ih =>
    intro i f h3 h4
    obtain ⟨g, rfl⟩ : ∃ g, f = g + 1 := ⟨f - 1, by omega⟩
    have hx := he.1 i (by omega)
    have hne : ¬ b0 + ni i = b0 + ni k := by
      intro q
      have q1 := (ni_inj (a := i) (b := k) (by omega) (by omega)).mp ((Int32.add_right_inj b0).mp q)
      omega
    rw [L_Journal_startOfWay_2, cg174_1, zb1_some, hc, if_neg (fun q => absurd ((zle (i := i) (m := c) (by omega) (by omega)).mp q) (by omega))]
    simp only [cr174_0, zb1_some, e_ar (show i < 5 by omega), e_gi hx (j := 2) rfl, hJ i (show i < c by omega)]
    rw [if_neg hne, ni_succ, ih (i + 1) g (by omega) (by omega)]
theorem s_way_out_L {c : Nat} {fr to : Int32} (hc : M 174 1 = ni c) (hc5 : c ≤ 5) (he : wperm e 5) (hJ : ∀ i, i < c → J (e i) 2 ≠ fr) : ∀ (m i f : Nat), i + m = c → m < f →
    L_Journal_startOfWay_2 N (zC A X M F I J G K w e) (A + 174) fr to f (ni i) = some (.inr ()) := by
  intro m
  induction m with
  | zero =>
    intro i f h3 h4
    obtain ⟨g, rfl⟩ : ∃ g, f = g + 1 := ⟨f - 1, by omega⟩
    have hi : i = c := by omega
    subst hi
    rw [L_Journal_startOfWay_2, cg174_1, zb1_some, hc, if_pos (Int32.le_refl _)]
  | succ m ih =>
    intro i f h3 h4
    obtain ⟨g, rfl⟩ : ∃ g, f = g + 1 := ⟨f - 1, by omega⟩
    have hx := he.1 i (by omega)
    rw [L_Journal_startOfWay_2, cg174_1, zb1_some, hc, if_neg (fun q => absurd ((zle (i := i) (m := c) (by omega) (by omega)).mp q) (by omega))]
    simp only [cr174_0, zb1_some, e_ar (show i < 5 by omega), e_gi hx (j := 2) rfl]
    rw [if_neg (hJ i (by omega)), ni_succ, ih (i + 1) g (by omega) (by omega)]
theorem s_way_in {c k : Nat} {b0 : Int32} (hc : M 174 1 = ni c) (hc5 : c ≤ 5) (he : wperm e 5) (hJ : ∀ i, i < c → J (e i) 2 = b0 + ni i) (hN : 100 < N) (hk : k < c) : f_Journal_startOfWay N (zC A X M F I J G K w e) (A + 174) (b0 + ni k) (b0 + ni c) = some (ni k) := by
  unfold f_Journal_startOfWay
  rw [show (0 : Int32) = ni 0 from rfl, s_way_L hc hc5 he hJ hN k hk k 0 N (by omega) (by omega), zbs_inl]
theorem s_way_out {c : Nat} {fr to : Int32} (hc : M 174 1 = ni c) (hc5 : c ≤ 5) (he : wperm e 5) (hJ : ∀ i, i < c → J (e i) 2 ≠ fr) (hN : 100 < N) : f_Journal_startOfWay N (zC A X M F I J G K w e) (A + 174) fr to = some (ni c) := by
  unfold f_Journal_startOfWay
  rw [show (0 : Int32) = ni 0 from rfl, s_way_out_L hc hc5 he hJ c 0 N (by omega) (by omega), zbs_inr, cg174_1, zb1_some, hc]
/-! the items -/
theorem C_list {c f : Nat} (hN : 100 < N) (h : c + cnt (cs (M 171)) 0 256 ≤ 112) : f_Records_listInto N (zC A X M F I J G K w e) (A + 170) (A + 201) (ni c) (ni f) = some (ni (c + cnt (cs (M 171)) 0 256), zC A X (zu M 201 (wr (M 201) c (lst (cs (M 171)) f 0 256))) F I J G K w e) := by
  have hm : mC M F I J G K (170 + 1) = M 171 := mC_fix fx170
  have h2 : fixd 201 := ⟨by decide, by decide⟩
  rw [zC, s_listInto (M := mC M F I J G K) rec170 (d := 201) (by decide) rfl (by decide) hN (by rw [hm]; exact h), zu_fix h2, hm, mC_fix h2, zC]
theorem C_listG {x c f : Nat} (hx : x < 5) (hN : 100 < N) (h : c + cnt (cs (G x)) 0 256 ≤ 112) : f_Records_listInto N (zC A X M F I J G K w e) (A + (176 + 5 * x + 1)) (A + 201) (ni c) (ni f) = some (ni (c + cnt (cs (G x)) 0 256), zC A X (zu M 201 (wr (M 201) c (lst (cs (G x)) f 0 256))) F I J G K w e) := by
  have hm : mC M F I J G K (176 + 5 * x + 1 + 1) = G x := mC_G hx
  have h2 : fixd 201 := ⟨by decide, by decide⟩
  rw [zC, s_listInto (M := mC M F I J G K) (shC_G hx) (d := 201) (by decide) rfl (by omega) hN (by rw [hm]; exact h), zu_fix h2, hm, mC_fix h2, zC]
theorem C_listK {x c f : Nat} (hx : x < 5) (hN : 100 < N) (h : c + cnt (cs (K x)) 0 256 ≤ 112) : f_Records_listInto N (zC A X M F I J G K w e) (A + (176 + 5 * x + 3)) (A + 201) (ni c) (ni f) = some (ni (c + cnt (cs (K x)) 0 256), zC A X (zu M 201 (wr (M 201) c (lst (cs (K x)) f 0 256))) F I J G K w e) := by
  have hm : mC M F I J G K (176 + 5 * x + 3 + 1) = K x := mC_K hx
  have h2 : fixd 201 := ⟨by decide, by decide⟩
  rw [zC, s_listInto (M := mC M F I J G K) (shC_K hx) (d := 201) (by decide) rfl (by omega) hN (by rw [hm]; exact h), zu_fix h2, hm, mC_fix h2, zC]
/-- the items of the entries i .. i + m - 1 -/
def dlst (G K : Nat → Nat → Int32) (e : Nat → Nat) : Nat → Nat → List Int32
  | _, 0 => []
  | i, m + 1 => lst (cs (G (e i))) 1 0 256 ++ (lst (cs (K (e i))) 0 0 256 ++ dlst G K e (i + 1) m)
/-- items written, and how many -/
def itM (M : Nat → Nat → Int32) (n : Nat) (l : List Int32) : Nat → Nat → Int32 := zu (zu M 201 (wr (M 201) n l)) 169 (upd (M 169) 4 (ni (n + l.length)))
theorem itM_app (M : Nat → Nat → Int32) (n : Nat) (l l' : List Int32) : itM (itM M n l) (n + l.length) l' = itM M n (l ++ l') := by
  unfold itM
  have h1 : zu (zu M 201 (wr (M 201) n l)) 169 (upd (M 169) 4 (ni (n + l.length))) 201 = wr (M 201) n l := by rw [zu_ne _ (by decide), zu_same]
  have h2 : zu (zu M 201 (wr (M 201) n l)) 169 (upd (M 169) 4 (ni (n + l.length))) 169 = upd (M 169) 4 (ni (n + l.length)) := zu_same _ _ _
  rw [h1, h2, wr_app, upd_upd, List.length_append, ← Nat.add_assoc, zu_comm (by decide : (169 : Nat) ≠ 201), zu_zu, zu_zu]
theorem s_work_L {c : Nat} (hc5 : c ≤ 5) (he : wperm e 5) (hN : 100 < N) : ∀ (m i f n : Nat) (M : Nat → Nat → Int32), M 174 1 = ni c → M 169 4 = ni n → i + m = c → m < f → n + (dlst G K e i m).length ≤ 112 →
    L_Primary_workOutItems_80 N (A + 169) f (zC A X M F I J G K w e) (ni i) = some ((), zC A X (itM M n (dlst G K e i m)) F I J G K w e) := by
  intro m
  induction m with
  | zero =>
    intro i f n M hc hn h3 h4 h5
    obtain ⟨g, rfl⟩ : ∃ g, f = g + 1 := ⟨f - 1, by omega⟩
    rw [L_Primary_workOutItems_80]
    simp only [cr169_2, zb1_some, cg174_1, hc]
    rw [if_pos ((zle (i := i) (m := c) (by omega) (by omega)).mpr (by omega))]
    congr 3
    unfold itM dlst wr
    rw [zu_id, List.length_nil, Nat.add_zero]
    have h6 : upd (M 169) 4 (ni n) = M 169 := by
      funext q
      unfold upd
      by_cases hq : q = 4
      · rw [if_pos hq, hq, hn]
      · rw [if_neg hq]
    rw [h6, zu_id]
  | succ m ih =>
    intro i f n M hc hn h3 h4 h5
    obtain ⟨g, rfl⟩ : ∃ g, f = g + 1 := ⟨f - 1, by omega⟩
    have hx := he.1 i (by omega)
    unfold dlst at h5
    rw [List.length_append, List.length_append, lst_len, lst_len] at h5
    rw [L_Primary_workOutItems_80]
    simp only [cr169_2, zb1_some, cg174_1, hc]
    rw [if_neg (fun q => absurd ((zle (i := i) (m := c) (by omega) (by omega)).mp q) (by omega))]
    simp only [cr174_0, zb1_some, e_ar (show i < 5 by omega), e_g0 hx, cr169_3, cg169_4, hn]
    rw [show zck (zC A X M F I J G K w e) (A + (176 + 5 * e i + 1)) 5 = some () from zl_ck (Nat.lt_of_succ_lt (shC_G hx).1) (shC_G hx).2.1, zb1_some, show (1 : Int32) = ni 1 from rfl, C_listG hx hN (by omega), zb2_some, cp169_4, zb1_some]
    have e1 : zu (zu M 201 (wr (M 201) n (lst (cs (G (e i))) 1 0 256))) 169 (upd (zu M 201 (wr (M 201) n (lst (cs (G (e i))) 1 0 256)) 169) 4 (ni (n + cnt (cs (G (e i))) 0 256))) = itM M n (lst (cs (G (e i))) 1 0 256) := by
      unfold itM
      rw [lst_len, zu_ne _ (by decide : (169 : Nat) ≠ 201)]
    rw [e1]
    have hn2 : itM M n (lst (cs (G (e i))) 1 0 256) 169 4 = ni (n + (lst (cs (G (e i))) 1 0 256).length) := by
      unfold itM
      rw [zu_same, upd_eq]
    simp only [cr169_2, cr174_0, zb1_some, e_ar (show i < 5 by omega), e_g1 hx, cr169_3, cg169_4, hn2]
    rw [show zck (zC A X (itM M n (lst (cs (G (e i))) 1 0 256)) F I J G K w e) (A + (176 + 5 * e i + 3)) 5 = some () from zl_ck (Nat.lt_of_succ_lt (shC_K hx).1) (shC_K hx).2.1, zb1_some, show (0 : Int32) = ni 0 from rfl, C_listK hx hN (by rw [lst_len]; omega), zb2_some, cp169_4, zb1_some]
    have e2 : zu (zu (itM M n (lst (cs (G (e i))) 1 0 256)) 201 (wr (itM M n (lst (cs (G (e i))) 1 0 256) 201) (n + (lst (cs (G (e i))) 1 0 256).length) (lst (cs (K (e i))) 0 0 256))) 169 (upd (zu (itM M n (lst (cs (G (e i))) 1 0 256)) 201 (wr (itM M n (lst (cs (G (e i))) 1 0 256) 201) (n + (lst (cs (G (e i))) 1 0 256).length) (lst (cs (K (e i))) 0 0 256)) 169) 4 (ni (n + (lst (cs (G (e i))) 1 0 256).length + cnt (cs (K (e i))) 0 256))) = itM (itM M n (lst (cs (G (e i))) 1 0 256)) (n + (lst (cs (G (e i))) 1 0 256).length) (lst (cs (K (e i))) 0 0 256) := by
      rw [zu_ne _ (by decide : (169 : Nat) ≠ 201)]
      show _ = zu (zu (itM M n (lst (cs (G (e i))) 1 0 256)) 201 (wr (itM M n (lst (cs (G (e i))) 1 0 256) 201) (n + (lst (cs (G (e i))) 1 0 256).length) (lst (cs (K (e i))) 0 0 256))) 169 (upd (itM M n (lst (cs (G (e i))) 1 0 256) 169) 4 (ni (n + (lst (cs (G (e i))) 1 0 256).length + (lst (cs (K (e i))) 0 0 256).length)))
      rw [lst_len (cs (K (e i)))]
    rw [e2, itM_app, ni_add, ih (i + 1) g (n + (lst (cs (G (e i))) 1 0 256 ++ lst (cs (K (e i))) 0 0 256).length) (itM M n (lst (cs (G (e i))) 1 0 256 ++ lst (cs (K (e i))) 0 0 256)) hc (by unfold itM; rw [zu_same, upd_eq]) (by omega) (by omega) (by rw [List.length_append, lst_len, lst_len]; omega), itM_app, List.append_assoc]
    rfl
end ZPRIM2
