/-! the answer to a FETCH: the items worked out, and sent as PARTs -/
theorem mlist_put {F I : Nat → Nat → Int32} {w : Nat → Nat} {c : Nat} (hw : wperm w 80) (hc : c < 80) (f it : Nat → Int32) : mlist (zu F (w c) f) (zu I (w c) it) w (c + 1) = mlist F I w c ++ [(f, it)] := by
  rw [mlist_succ, zu_same, zu_same]
  congr 1
  apply mlist_congr
  intro i hi
  have h : w i ≠ w c := fun q => by
    have := hw.2 i c (by omega) hc q
    omega
  exact ⟨zu_ne _ h, zu_ne _ h⟩
theorem mlist_putF {F I : Nat → Nat → Int32} {w : Nat → Nat} {c : Nat} (hw : wperm w 80) (hc : c < 80) (f : Nat → Int32) : mlist (zu F (w c) f) I w (c + 1) = mlist F I w c ++ [(f, I (w c))] := by
  have h := mlist_put (F := F) (I := I) hw hc f (I (w c))
  rwa [zu_id] at h
section ZPARTS
variable {A : Nat} {X : zh_T} {M F I J G K : Nat → Nat → Int32} {w e : Nat → Nat} {N : Nat}
def w0M (M : Nat → Nat → Int32) (b : Int32) : Nat → Nat → Int32 := zu M 169 (upd (upd (M 169) 5 b) 4 0)
theorem s_whole_end (hN : 100 < N) (h : cnt (cs (M 171)) 0 256 ≤ 112) :
    (zb1 (zpz (zC A X M F I J G K w e) (A + 169) 4 5 1) fun X72 => zb1 (zp X72 (A + 169) 4 4 (.int 0)) fun X74 => zb1 (zgi X74 (A + 169) 4 5) fun v77 => if v77 = 0 then (zb2 (L_Primary_workOutItems_80 N (A + 169) N X74 (M 174 1)) fun _ X81 => some ((), X81)) else zb1 (zgr X74 (A + 169) 4 0) fun a83 => zb1 (zgr X74 (A + 169) 4 3) fun a85 => zb1 (zck X74 a83 5) fun _ => zb2 (f_Records_listInto N X74 a83 a85 0 0) fun v88 X89 => zb1 (zp X89 (A + 169) 4 4 (.int v88)) fun X90 => some ((), X90))
      = some ((), zC A X (itM (w0M M 1) 0 (lst (cs (M 171)) 0 0 256)) F I J G K w e) := by
  rw [cz169_5 (Or.inr rfl), zb1_some, cp169_4, zb1_some, zu_zu, zu_same, show zu M 169 (upd (upd (M 169) 5 1) 4 0) = w0M M 1 from rfl, cg169_5, zb1_some, if_neg (show ¬ w0M M 1 169 5 = 0 from (by decide : ¬ (1 : Int32) = 0))]
  simp only [cr169_0, zb1_some, cr169_3, ck170]
  have h2 := C_list (N := N) (A := A) (X := X) (F := F) (I := I) (J := J) (G := G) (K := K) (w := w) (e := e) (M := w0M M 1) (c := 0) (f := 0) hN (by show 0 + cnt (cs (M 171)) 0 256 ≤ 112; omega)
  rw [show (0 : Int32) = ni 0 from rfl, h2, zb2_some, cp169_4, zb1_some]
  have h171 : w0M M 1 171 = M 171 := rfl
  have h3 : zu (zu (w0M M 1) 201 (wr (w0M M 1 201) 0 (lst (cs (M 171)) 0 0 256))) 169 (upd (zu (w0M M 1) 201 (wr (w0M M 1 201) 0 (lst (cs (M 171)) 0 0 256)) 169) 4 (ni (0 + cnt (cs (M 171)) 0 256))) = itM (w0M M 1) 0 (lst (cs (M 171)) 0 0 256) := by
    unfold itM
    rw [lst_len, zu_ne _ (by decide : (169 : Nat) ≠ 201)]
  rw [h171, h3]
theorem s_workW {c : Nat} (hc : M 174 1 = ni c) (hN : 100 < N) (h : cnt (cs (M 171)) 0 256 ≤ 112) (fr : Int32) : f_Primary_workOutItems N (zC A X M F I J G K w e) (A + 169) 0 fr = some ((), zC A X (itM (w0M M 1) 0 (lst (cs (M 171)) 0 0 256)) F I J G K w e) := by
  unfold f_Primary_workOutItems
  rw [if_pos rfl]
  simp only [cr169_2, zb1_some, cg174_1]
  rw [if_neg Int32.lt_irrefl]
  exact s_whole_end hN h
theorem s_workO {c : Nat} (hc : M 174 1 = ni c) (hc5 : c ≤ 5) (he : wperm e 5) (hN : 100 < N) (h : cnt (cs (M 171)) 0 256 ≤ 112) {fr b : Int32} (hb : b ≠ 0) (hJ : ∀ i, i < c → J (e i) 2 ≠ fr) : f_Primary_workOutItems N (zC A X M F I J G K w e) (A + 169) b fr = some ((), zC A X (itM (w0M M 1) 0 (lst (cs (M 171)) 0 0 256)) F I J G K w e) := by
  unfold f_Primary_workOutItems
  rw [if_neg hb, cr169_2, zb1_some, cg169_6, zb1_some, ck174, zb1_some, s_way_out hc hc5 he hJ hN, zb1_some, zb1_some, cg174_1, zb1_some, ← hc, if_neg Int32.lt_irrefl]
  exact s_whole_end hN h
theorem s_workD {c k : Nat} {b0 : Int32} (hc : M 174 1 = ni c) (hc5 : c ≤ 5) (he : wperm e 5) (hN : 100 < N) {b : Int32} (hb : b ≠ 0) (hJ : ∀ i, i < c → J (e i) 2 = b0 + ni i) (hs : M 169 6 = b0 + ni c) (hk : k < c) (h : (dlst G K e k (c - k)).length ≤ 112) : f_Primary_workOutItems N (zC A X M F I J G K w e) (A + 169) b (b0 + ni k) = some ((), zC A X (itM (w0M M 0) 0 (dlst G K e k (c - k))) F I J G K w e) := by
  unfold f_Primary_workOutItems
  rw [if_neg hb, cr169_2, zb1_some, cg169_6, zb1_some, ck174, zb1_some, hs, s_way_in hc hc5 he hJ hN hk, zb1_some, zb1_some, cg174_1, zb1_some, hc, if_pos ((ni_lt (a := k) (b := c) (by omega) (by omega)).mpr hk)]
  rw [cz169_5 (Or.inl rfl), zb1_some, cp169_4, zb1_some, zu_zu, zu_same, show zu M 169 (upd (upd (M 169) 5 0) 4 0) = w0M M 0 from rfl, cg169_5, zb1_some, if_pos (show w0M M 0 169 5 = 0 from rfl)]
  rw [s_work_L hc5 he hN (c - k) k N 0 (w0M M 0) hc rfl (by omega) (by omega) (by omega), zb2_some]
/-- a row of items copied into a message -/
def cpI (it src : Nat → Int32) (fr i k : Nat) : Nat → Int32 := fun j => if i ≤ j ∧ j < k then src (fr + j) else it j
theorem s_items_L {x k fr : Nat} (hx : x < 80) (hk : k ≤ 4) (hf : fr + k ≤ 112) (s w3 : Int32) : ∀ (m i f : Nat) (I : Nat → Nat → Int32), F x 6 = ni k → i + m = k → m < f →
    L_Wire_sendParts_87 N (A + 6) s (A + 169) w3 (ni fr) (A + (8 + 2 * x)) f (zC A X M F I J G K w e) (ni i) = some ((), zC A X M F (zu I x (cpI (I x) (M 201) fr i k)) J G K w e) := by
  intro m
  induction m with
  | zero =>
    intro i f I h6 h3 h4
    obtain ⟨g, rfl⟩ : ∃ g, f = g + 1 := ⟨f - 1, by omega⟩
    rw [L_Wire_sendParts_87, m_gi hx (j := 6) rfl, zb1_some, h6, if_pos ((zle (i := i) (m := k) (by omega) (by omega)).mpr (by omega))]
    have e1 : cpI (I x) (M 201) fr i k = I x := by
      funext j
      exact if_neg (by omega)
    rw [e1, zu_id]
  | succ m ih =>
    intro i f I h6 h3 h4
    obtain ⟨g, rfl⟩ : ∃ g, f = g + 1 := ⟨f - 1, by omega⟩
    rw [L_Wire_sendParts_87, m_gi hx (j := 6) rfl, zb1_some, h6, if_neg (fun q => absurd ((zle (i := i) (m := k) (by omega) (by omega)).mp q) (by omega))]
    rw [m_gr hx, zb1_some, cr169_3, zb1_some, ni_add, C_ai (k := 201) (len := 112) (i := fr + i) (by decide) ⟨by decide, by decide⟩ rfl (by omega) (by decide), zb1_some, m_si hx (i := i) (by omega), zb1_some, ni_succ, ih (i + 1) g _ h6 (by omega) (by omega), zu_zu, zu_same]
    congr 4
    funext j
    unfold cpI upd
    by_cases e1 : j = i
    · subst e1
      rw [if_neg (by omega), if_pos rfl, if_pos (by omega)]
    · by_cases e2 : i + 1 ≤ j ∧ j < k
      · rw [if_pos e2, if_pos (by omega)]
      · rw [if_neg e2, if_neg e1, if_neg (by omega)]
/-- what a PART holds: n items of the row src in all, this is number p of them -/
def isP (m : zMsg) (s sr wh : Int32) (n p : Nat) (src : Nat → Int32) : Prop :=
  m.1 1 = 5 ∧ m.1 2 = s ∧ m.1 4 = sr ∧ m.1 5 = ni p ∧ m.1 6 = ni (min 4 (n - 4 * p)) ∧ m.1 7 = wh ∧ m.1 8 = (if 4 * p + 4 < n then 0 else 1) ∧ m.1 9 = 0 ∧ ∀ j, j < min 4 (n - 4 * p) → m.2 j = src (4 * p + j)
def psOk (s sr wh : Int32) (n : Nat) (src : Nat → Int32) : List zMsg → Nat → Prop
  | [], p => n ≤ 4 * p
  | m :: r, p => isP m s sr wh n p src ∧ 4 * p < n ∧ psOk s sr wh n src r (p + 1)
theorem s_parts_L {n : Nat} (hn : n ≤ 112) (s : Int32) (hN : 200 < N) : ∀ (m p f c : Nat) (M F I : Nat → Nat → Int32), M 6 1 = ni c → M 169 4 = ni n → (M 169 5 = 0 ∨ M 169 5 = 1) → c + m ≤ 80 → p + m ≤ 28 → wperm w 80 → n ≤ 4 * (p + m) → (m = 0 ∨ 4 * (p + m - 1) < n) → m < f →
    ∃ F' I' ps, L_Wire_sendParts_5 N (A + 6) s (A + 169) f (zC A X M F I J G K w e) (ni p) (ni (4 * p)) = some (.inr ((), zC A X (zu M 6 (upd (M 6) 1 (ni (c + m)))) F' I' J G K w e)) ∧ ps.length = m ∧ mlist F' I' w (c + m) = mlist F I w c ++ ps ∧ psOk s (M 169 6) (M 169 5) n (M 201) ps p := by
  intro m
  induction m with
  | zero =>
    intro p f c M F I hc h4 h5 hc80 hp hw h1 h2 hf
    obtain ⟨g, rfl⟩ : ∃ g, f = g + 1 := ⟨f - 1, by omega⟩
    refine ⟨F, I, [], ?_, rfl, by simp, h1⟩
    rw [L_Wire_sendParts_5, cg169_4, zb1_some, h4, if_pos ((zle (i := 4 * p) (m := n) (by omega) (by omega)).mpr (by omega))]
    have e1 : upd (M 6) 1 (ni (c + 0)) = M 6 := by
      funext q
      unfold upd
      by_cases hq : q = 1
      · rw [if_pos hq, hq, hc, Nat.add_zero]
      · rw [if_neg hq]
    rw [e1, zu_id]
  | succ m ih =>
    intro p f c M F I hc h4 h5 hc80 hp hw h1 h2 hf
    obtain ⟨g, rfl⟩ : ∃ g, f = g + 1 := ⟨f - 1, by omega⟩
    have hx := hw.1 c (by omega)
    have hlt : 4 * p < n := by omega
    rw [L_Wire_sendParts_5, cg169_4, zb1_some, h4, if_neg (fun q => absurd ((zle (i := 4 * p) (m := n) (by omega) (by omega)).mp q) (by omega)), cg169_6, zb1_some, ck6, zb1_some, s_put_w hc (by omega) hw, zb2_some, zbo_some]
    generalize hM' : zu M 6 (upd (M 6) 1 (ni (c + 1))) = M'
    have m5 : M' 169 5 = M 169 5 := by rw [← hM', zu_ne _ (by decide : (169 : Nat) ≠ 6)]
    have m4 : M' 169 4 = ni n := by rw [← hM', zu_ne _ (by decide : (169 : Nat) ≠ 6), h4]
    have m6 : M' 169 6 = M 169 6 := by rw [← hM', zu_ne _ (by decide : (169 : Nat) ≠ 6)]
    have m201 : M' 201 = M 201 := by rw [← hM', zu_ne _ (by decide : (201 : Nat) ≠ 6)]
    have mc : M' 6 1 = ni (c + 1) := by rw [← hM', zu_same, upd_eq]
    rw [m_p hx (j := 5) rfl, zb1_some, cg169_5, zb1_some, m_pz hx (j := 7) rfl (by rw [m5]; exact h5), zb1_some, cg169_4, zb1_some, m4, show (4 : Int32) = ni 4 from rfl, ni_add]
    have step : ∀ (la : Int32) (hla : la = if 4 * p + 4 < n then 0 else 1) (F1 : Nat → Nat → Int32), F1 = zu F (w c) (upd (upd (upd (upd (putM (F (w c)) 5 s (M 169 6)) 5 (ni p)) 7 (M' 169 5)) 8 la) 6 (ni (min 4 (n - 4 * p)))) →
        ∃ F' I' ps, (zb2 (L_Wire_sendParts_87 N (A + 6) s (A + 169) (ni p) (ni (4 * p)) (A + (8 + 2 * w c)) N (zC A X M' F1 I J G K w e) 0) fun _ X39 => L_Wire_sendParts_5 N (A + 6) s (A + 169) g X39 (ni p + 1) (ni (4 * p + 4))) = some (.inr ((), zC A X (zu M 6 (upd (M 6) 1 (ni (c + (m + 1))))) F' I' J G K w e)) ∧ ps.length = m + 1 ∧ mlist F' I' w (c + (m + 1)) = mlist F I w c ++ ps ∧ psOk s (M 169 6) (M 169 5) n (M 201) ps p := by
      intro la hla F1 hF1
      have h6 : F1 (w c) 6 = ni (min 4 (n - 4 * p)) := by rw [hF1, zu_same, upd_eq]
      have hl := s_items_L (N := N) (A := A) (X := X) (M := M') (F := F1) (J := J) (G := G) (K := K) (w := w) (e := e) (x := w c) (k := min 4 (n - 4 * p)) (fr := 4 * p) hx (by omega) (by omega) s (ni p) (min 4 (n - 4 * p)) 0 N I h6 (by omega) (by omega)
      obtain ⟨F', I', ps, q1, q2, q3, q4⟩ := ih (p + 1) g (c + 1) M' F1 (zu I (w c) (cpI (I (w c)) (M' 201) (4 * p) 0 (min 4 (n - 4 * p)))) mc m4 (by rw [m5]; exact h5) (by omega) (by omega) hw (by omega) (by omega) (by omega)
      refine ⟨F', I', (F1 (w c), cpI (I (w c)) (M' 201) (4 * p) 0 (min 4 (n - 4 * p))) :: ps, ?_, by simp [q2], ?_, ?_⟩
      · rw [show (0 : Int32) = ni 0 from rfl, hl, zb2_some, ni_succ, show 4 * p + 4 = 4 * (p + 1) by omega, q1, ← hM', zu_zu, zu_same, upd_upd, show c + 1 + m = c + (m + 1) by omega]
      · rw [show c + (m + 1) = c + 1 + m by omega, q3]
        have e1 : F1 = zu F (w c) (F1 (w c)) := by rw [hF1, zu_same]
        rw [show mlist F1 (zu I (w c) (cpI (I (w c)) (M' 201) (4 * p) 0 (min 4 (n - 4 * p)))) w (c + 1) = mlist (zu F (w c) (F1 (w c))) (zu I (w c) (cpI (I (w c)) (M' 201) (4 * p) 0 (min 4 (n - 4 * p)))) w (c + 1) from by rw [← e1], mlist_put hw (by omega), List.append_assoc]
        rfl
      · refine ⟨⟨?_, ?_, ?_, ?_, h6, ?_, ?_, ?_, ?_⟩, hlt, ?_⟩
        · show F1 (w c) 1 = 5
          rw [hF1, zu_same]
          rfl
        · show F1 (w c) 2 = s
          rw [hF1, zu_same]
          rfl
        · show F1 (w c) 4 = M 169 6
          rw [hF1, zu_same]
          rfl
        · show F1 (w c) 5 = ni p
          rw [hF1, zu_same]
          rfl
        · show F1 (w c) 7 = M 169 5
          rw [hF1, zu_same]
          exact m5
        · show F1 (w c) 8 = _
          rw [hF1, zu_same]
          exact hla
        · show F1 (w c) 9 = 0
          rw [hF1, zu_same]
          rfl
        · intro j hj
          show cpI (I (w c)) (M' 201) (4 * p) 0 (min 4 (n - 4 * p)) j = M 201 (4 * p + j)
          rw [show cpI (I (w c)) (M' 201) (4 * p) 0 (min 4 (n - 4 * p)) j = M' 201 (4 * p + j) from if_pos ⟨Nat.zero_le j, hj⟩, m201]
        · rw [m6, m5, m201] at q4
          exact q4
    by_cases hlast : 4 * p + 4 < n
    · have hmin : min 4 (n - 4 * p) = 4 := by omega
      rw [if_pos ((ni_lt (a := 4 * p + 4) (b := n) (by omega) (by omega)).mpr hlast), m_pz hx (j := 8) rfl (Or.inl rfl), zb1_some, cg169_4, zb1_some, m4, ni_sub (a := n) (b := 4 * p) (by omega), if_neg (show ¬ ni (n - 4 * p) < ni 4 from fun q => absurd ((ni_lt (a := n - 4 * p) (b := 4) (by omega) (by decide)).mp q) (by omega)), m_p hx (j := 6) rfl, zb1_some]
      simp only [zu_zu, zu_same]
      exact step 0 (by rw [if_pos hlast]) _ (by rw [hmin])
    · have hmin : min 4 (n - 4 * p) = n - 4 * p := by omega
      rw [if_neg (fun q => hlast ((ni_lt (a := 4 * p + 4) (b := n) (by omega) (by omega)).mp q)), m_pz hx (j := 8) rfl (Or.inr rfl), zb1_some, cg169_4, zb1_some, m4, ni_sub (a := n) (b := 4 * p) (by omega)]
      have hval : (if ni (n - 4 * p) < ni 4 then ni (n - 4 * p) else ni 4) = ni (n - 4 * p) := by
        by_cases h9 : n - 4 * p < 4
        · rw [if_pos ((ni_lt (a := n - 4 * p) (b := 4) (by omega) (by decide)).mpr h9)]
        · have h10 : n - 4 * p = 4 := by omega
          rw [h10, ite_self]
      rw [hval, m_p hx (j := 6) rfl, zb1_some]
      simp only [zu_zu, zu_same]
      exact step 1 (by rw [if_neg hlast]) _ (by rw [hmin])
theorem s_sendParts {n c : Nat} (hn : n ≤ 112) (s : Int32) (hN : 200 < N) (hc : M 6 1 = ni c) (h4 : M 169 4 = ni n) (h5 : M 169 5 = 0 ∨ M 169 5 = 1) (hc80 : c + (n + 3) / 4 ≤ 80) (hw : wperm w 80) :
    ∃ F' I' ps, f_Wire_sendParts N (zC A X M F I J G K w e) (A + 6) s (A + 169) = some ((), zC A X (zu M 6 (upd (M 6) 1 (ni (c + (n + 3) / 4)))) F' I' J G K w e) ∧ ps.length = (n + 3) / 4 ∧ mlist F' I' w (c + (n + 3) / 4) = mlist F I w c ++ ps ∧ psOk s (M 169 6) (M 169 5) n (M 201) ps 0 := by
  obtain ⟨F', I', ps, q1, q2, q3, q4⟩ := s_parts_L (N := N) (A := A) (X := X) (J := J) (G := G) (K := K) (w := w) (e := e) hn s hN ((n + 3) / 4) 0 N c M F I hc h4 h5 hc80 (by omega) hw (by omega) (by omega) (by omega)
  refine ⟨F', I', ps, ?_, q2, q3, q4⟩
  unfold f_Wire_sendParts
  have q1' : L_Wire_sendParts_5 N (A + 6) s (A + 169) N (zC A X M F I J G K w e) 0 0 = some (.inr ((), zC A X (zu M 6 (upd (M 6) 1 (ni (c + (n + 3) / 4)))) F' I' J G K w e)) := q1
  rw [q1', zbt_inr]
end ZPARTS
