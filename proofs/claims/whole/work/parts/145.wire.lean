/-! the class Wire: the messages as a list -/
abbrev zMsg : Type := (Nat → Int32) × (Nat → Int32)
def mlist (F I : Nat → Nat → Int32) (w : Nat → Nat) (c : Nat) : List zMsg := (List.range c).map fun i => (F (w i), I (w i))
def wperm (w : Nat → Nat) (n : Nat) : Prop := (∀ i, i < n → w i < n) ∧ ∀ i j, i < n → j < n → w i = w j → i = j
def onS (m : zMsg) : Bool := decide (m.1 1 = 4 ∨ m.1 1 = 5)
def ofS (s : Int32) (m : zMsg) : Bool := onS m && decide (m.1 2 = s)
theorem mlist_len (F I : Nat → Nat → Int32) (w : Nat → Nat) (c : Nat) : (mlist F I w c).length = c := by simp [mlist]
theorem mlist_get (F I : Nat → Nat → Int32) (w : Nat → Nat) {c i : Nat} (h : i < c) : (mlist F I w c)[i]? = some (F (w i), I (w i)) := by simp [mlist, h]
theorem mlist_out (F I : Nat → Nat → Int32) (w : Nat → Nat) {c i : Nat} (h : c ≤ i) : (mlist F I w c)[i]? = none := by simp [mlist, h]
theorem mlist_succ (F I : Nat → Nat → Int32) (w : Nat → Nat) (c : Nat) : mlist F I w (c + 1) = mlist F I w c ++ [(F (w c), I (w c))] := by simp [mlist, List.range_succ]
theorem mlist_congr {F I F' I' : Nat → Nat → Int32} {w w' : Nat → Nat} {c : Nat} (h : ∀ i, i < c → F (w i) = F' (w' i) ∧ I (w i) = I' (w' i)) : mlist F I w c = mlist F' I' w' c := by
  unfold mlist
  apply List.map_congr_left
  intro i hi
  have := h i (List.mem_range.mp hi)
  rw [this.1, this.2]
/-- a row from which place a is taken out, the rows behind it going up -/
def shf (w : Nat → Nat) (a b : Nat) : Nat → Nat := fun q => if a ≤ q ∧ q < b then w (q + 1) else w q
def rot (w : Nat → Nat) (a b : Nat) : Nat → Nat := va_up (shf w a b) b (w a)
theorem rot_perm {w : Nat → Nat} {n a b : Nat} (h : wperm w n) (hab : a ≤ b) (hb : b < n) : wperm (rot w a b) n := by
  have key : ∀ q, rot w a b q = w (if q = b then a else if a ≤ q ∧ q < b then q + 1 else q) := by
    intro q
    unfold rot va_up shf
    by_cases h1 : q = b
    · rw [if_pos h1, if_pos h1]
    · rw [if_neg h1, if_neg h1]
      by_cases h2 : a ≤ q ∧ q < b
      · rw [if_pos h2, if_pos h2]
      · rw [if_neg h2, if_neg h2]
  constructor
  · intro i hi
    rw [key]
    apply h.1
    split
    · omega
    · split <;> omega
  · intro i j hi hj e
    rw [key, key] at e
    have e1 := h.2 _ _ (by split; omega; split <;> omega) (by split; omega; split <;> omega) e
    split at e1 <;> split at e1 <;> (try split at e1) <;> (try split at e1) <;> omega
theorem mlist_rot (F I : Nat → Nat → Int32) (w : Nat → Nat) {c i : Nat} (h : i < c) : mlist F I (rot w i (c - 1)) (c - 1) = (mlist F I w c).eraseIdx i := by
  apply List.ext_getElem?
  intro q
  rw [List.getElem?_eraseIdx]
  by_cases h1 : q < c - 1
  · rw [mlist_get _ _ _ h1]
    have e : rot w i (c - 1) q = shf w i (c - 1) q := if_neg (by omega)
    by_cases h2 : q < i
    · rw [if_pos h2, mlist_get _ _ _ (by omega : q < c), e, show shf w i (c - 1) q = w q from if_neg (by omega)]
    · rw [if_neg h2, mlist_get _ _ _ (by omega : q + 1 < c), e, show shf w i (c - 1) q = w (q + 1) from if_pos (by omega)]
  · rw [mlist_out _ _ _ (by omega : c - 1 ≤ q), if_neg (by omega), mlist_out _ _ _ (by omega : c ≤ q + 1)]
section ZWIRE
variable {A : Nat} {X : zh_T} {M F I J G K : Nat → Nat → Int32} {w e : Nat → Nat} {N : Nat}
theorem s_isOnStream {x : Nat} (hx : x < 80) : f_Message_isOnStream N (zC A X M F I J G K w e) (A + (8 + 2 * x)) = some (if onS (F x, I x) then 1 else 0) := by
  unfold f_Message_isOnStream onS
  rw [m_gi hx (j := 1) rfl, zb1_some, zb1_some]
  by_cases h4 : F x 1 = 4
  · simp [h4]
  · by_cases h5 : F x 1 = 5
    · simp [h5]
    · simp [h4, h5]
theorem s_within (a b c : Int32) : f_ZoneNodes_within N X a b c = some (if b ≤ a ∧ a ≤ c then 1 else 0) := by
  unfold f_ZoneNodes_within
  by_cases h1 : a < b
  · rw [if_pos h1, if_neg (fun q => absurd h1 (Int32.not_lt.mpr q.1))]
  · rw [if_neg h1]
    by_cases h2 : c < a
    · rw [if_pos h2, if_neg (fun q => absurd h2 (Int32.not_lt.mpr q.2))]
    · rw [if_neg h2, if_pos ⟨Int32.not_lt.mp h1, Int32.not_lt.mp h2⟩]
theorem s_countLossy_L {c : Nat} (hc : M 6 1 = ni c) (hc80 : c ≤ 80) (hw : wperm w 80) : ∀ (m i f v : Nat), i + m = c → m < f →
    L_Wire_countLossy_4 N (zC A X M F I J G K w e) (A + 6) f (ni v) (ni i) = some (ni (v + ((mlist F I w c).drop i).countP fun m => !onS m)) := by
  intro m
  induction m with
  | zero =>
    intro i f v h3 h4
    obtain ⟨g, rfl⟩ : ∃ g, f = g + 1 := ⟨f - 1, by omega⟩
    have e1 : i = c := by omega
    subst e1
    rw [L_Wire_countLossy_4, cg6_1, zb1_some, hc, if_pos (Int32.le_refl _), List.drop_eq_nil_of_le (by rw [mlist_len]; omega)]
    rfl
  | succ m ih =>
    intro i f v h3 h4
    obtain ⟨g, rfl⟩ : ∃ g, f = g + 1 := ⟨f - 1, by omega⟩
    have hi : i < (mlist F I w c).length := by rw [mlist_len]; omega
    have hg : (mlist F I w c)[i] = (F (w i), I (w i)) := by
      have := mlist_get F I w (show i < c by omega)
      rw [List.getElem?_eq_getElem hi] at this
      exact Option.some.inj this
    rw [L_Wire_countLossy_4, cg6_1, zb1_some, hc, if_neg (fun q => absurd ((zle (i := i) (m := c) (by omega) (by omega)).mp q) (by omega)), cr6_0, zb1_some, w_ar (i := i) (by omega), zb1_some, m_ck (hw.1 i (by omega)), zb1_some, s_isOnStream (hw.1 i (by omega)), zb1_some, List.drop_eq_getElem_cons hi, List.countP_cons, hg]
    by_cases ho : onS (F (w i), I (w i)) = true
    · rw [if_pos ho, if_neg (by decide), ni_succ, ih (i + 1) g v (by omega) (by omega)]
      simp [ho]
    · rw [if_neg ho, if_pos rfl, ni_succ, ni_succ, ih (i + 1) g (v + 1) (by omega) (by omega)]
      simp [ho]
      congr 1
      omega
theorem s_countLossy {c : Nat} (hc : M 6 1 = ni c) (hc80 : c ≤ 80) (hw : wperm w 80) (hN : 100 < N) : f_Wire_countLossy N (zC A X M F I J G K w e) (A + 6) = some (ni ((mlist F I w c).countP fun m => !onS m)) := by
  unfold f_Wire_countLossy
  have e1 := s_countLossy_L (N := N) (A := A) (X := X) (J := J) (G := G) (K := K) (e := e) (F := F) (I := I) hc hc80 hw c 0 N 0 (by omega) (by omega)
  rw [List.drop_zero, Nat.zero_add] at e1
  rw [show (0 : Int32) = ni 0 from rfl, e1, zb1_some]
/-- the message that 'put' writes -/
def putM (f : Nat → Int32) (k s r : Int32) : Nat → Int32 := upd (upd (upd (upd f 1 k) 2 s) 4 r) 9 0
theorem s_put_w {c : Nat} (hc : M 6 1 = ni c) (hc80 : c < 80) (hw : wperm w 80) (k s r : Int32) : f_Wire_put N (zC A X M F I J G K w e) (A + 6) k s r =
    some (some (A + (8 + 2 * w c)), zC A X (zu M 6 (upd (M 6) 1 (ni (c + 1)))) (zu F (w c) (putM (F (w c)) k s r)) I J G K w e) := by
  have hx := hw.1 c hc80
  unfold f_Wire_put putM
  rw [cg6_1, zb1_some, cr6_0, zb1_some, w_ln, zb1_some, hc, if_pos ((ni_lt (a := c) (by omega) (b := 80) (by decide)).mpr hc80), zb1_some, zb1_some, w_ar hc80, zb1_some, m_p hx (j := 1) rfl, zb1_some, m_p hx (j := 2) rfl, zb1_some, m_p hx (j := 4) rfl, zb1_some, m_pz hx (j := 9) rfl (Or.inl rfl), zb1_some, cg6_1, zb1_some, cp6_1, zb1_some, hc, ni_succ]
  rw [zu_zu, zu_zu, zu_zu, zu_same, zu_same, zu_same]
theorem shf_nil (w : Nat → Nat) {a b : Nat} (h : b ≤ a) : shf w a b = w := by
  funext q
  exact if_neg (by omega)
theorem shf_step (w : Nat → Nat) {j b : Nat} (h1 : 1 ≤ j) (h2 : j ≤ b) : shf (va_up w (j - 1) (w j)) j b = shf w (j - 1) b := by
  funext q
  unfold shf va_up
  by_cases e1 : q = j - 1
  · rw [if_neg (by omega), if_pos e1, if_pos (by omega), show q + 1 = j by omega]
  · by_cases e2 : j ≤ q ∧ q < b
    · rw [if_pos e2, if_neg (by omega), if_pos (by omega)]
    · rw [if_neg e2, if_neg e1, if_neg (by omega)]
theorem s_takeOut_L {c : Nat} (hc : M 6 1 = ni c) (hc80 : c ≤ 80) (t : Nat) : ∀ (m j f : Nat) (w : Nat → Nat), (∀ i, i < 80 → w i < 80) → 1 ≤ j → j + m = c → m < f →
    L_Wire_takeOut_11 N (A + 6) t f (zC A X M F I J G K w e) (ni j) = some ((), zC A X M F I J G K (shf w (j - 1) (c - 1)) e) := by
  intro m
  induction m with
  | zero =>
    intro j f w hw h2 h3 h4
    obtain ⟨g, rfl⟩ : ∃ g, f = g + 1 := ⟨f - 1, by omega⟩
    rw [L_Wire_takeOut_11, cg6_1, zb1_some, hc, if_pos ((zle (i := j) (m := c) (by omega) (by omega)).mpr (by omega)), shf_nil w (by omega)]
  | succ m ih =>
    intro j f w hw h2 h3 h4
    obtain ⟨g, rfl⟩ : ∃ g, f = g + 1 := ⟨f - 1, by omega⟩
    have hw' : ∀ i, i < 80 → va_up w (j - 1) (w j) i < 80 := by
      intro i hi
      unfold va_up
      split
      · exact hw j (by omega)
      · exact hw i hi
    rw [L_Wire_takeOut_11, cg6_1, zb1_some, hc, if_neg (fun q => absurd ((zle (i := j) (m := c) (by omega) (by omega)).mp q) (by omega)), cr6_0, zb1_some, zb1_some, w_ar (i := j) (by omega), zb1_some, ni_pred h2, w_sr (i := j - 1) (by omega) (hw j (by omega)), zb1_some, ni_succ, ih (j + 1) g _ hw' (by omega) (by omega) (by omega), Nat.add_sub_cancel, shf_step w h2 (by omega)]
theorem s_takeOut {c i : Nat} (hc : M 6 1 = ni c) (hc80 : c ≤ 80) (hw : wperm w 80) (hi : i < c) (hN : 100 < N) : f_Wire_takeOut N (zC A X M F I J G K w e) (A + 6) (ni i) =
    some ((), zC A X (zu M 6 (upd (M 6) 1 (ni (c - 1)))) F I J G K (rot w i (c - 1)) e) := by
  unfold f_Wire_takeOut
  have hb : (zu M 6 (upd (M 6) 1 (ni (c - 1)))) 6 1 = ni (c - 1) := by rw [zu_same, upd_eq]
  rw [cr6_0, zb1_some, w_ar (i := i) (by omega), zb1_some, ni_succ, s_takeOut_L hc hc80 _ (c - (i + 1)) (i + 1) N w hw.1 (by omega) (by omega) (by omega), zb2_some, cg6_1, zb1_some, hc, ni_pred (by omega), cp6_1, zb1_some, cr6_0, zb1_some, cg6_1, zb1_some, hb, Nat.add_sub_cancel, w_sr (i := c - 1) (by omega) (hw.1 i (by omega)), zb1_some]
  rfl
/-- the stream of a secondary ends: its messages go, from the last to the first -/
theorem s_endStream_L (s : Int32) (hN : 100 < N) : ∀ (j f c : Nat) (M : Nat → Nat → Int32) (w : Nat → Nat), M 6 1 = ni c → c ≤ 80 → wperm w 80 → j ≤ c → j < f →
    ∃ c' w', L_Wire_endStreamOf_7 N (A + 6) s f (zC A X M F I J G K w e) (ni j - 1) = some ((), zC A X (zu M 6 (upd (M 6) 1 (ni c'))) F I J G K w' e) ∧ wperm w' 80 ∧ c' ≤ c ∧
      mlist F I w' c' = ((mlist F I w c).take j).filter (fun m => !ofS s m) ++ (mlist F I w c).drop j := by
  intro j
  induction j with
  | zero =>
    intro f c M w hc hc80 hw hj hf
    obtain ⟨g, rfl⟩ : ∃ g, f = g + 1 := ⟨f - 1, by omega⟩
    rw [L_Wire_endStreamOf_7, if_pos (by decide)]
    refine ⟨c, w, ?_, hw, Nat.le_refl c, by simp⟩
    rw [show upd (M 6) 1 (ni c) = M 6 from ?_, zu_id]
    funext q
    unfold upd
    by_cases hq : q = 1
    · rw [if_pos hq, hq, hc]
    · rw [if_neg hq]
  | succ j ih =>
    intro f c M w hc hc80 hw hj hf
    obtain ⟨g, rfl⟩ : ∃ g, f = g + 1 := ⟨f - 1, by omega⟩
    have hj80 : j < 80 := by omega
    have hwj := hw.1 j hj80
    have e0 : ni (j + 1) - 1 = ni j := ni_pred (by omega)
    have e1 : ni j + (-1) = ni j - 1 := (Int32.sub_eq_add_neg _ _).symm
    have hlen : j < (mlist F I w c).length := by rw [mlist_len]; omega
    have hget : (mlist F I w c)[j] = (F (w j), I (w j)) := by
      have h := mlist_get F I w (show j < c by omega)
      rw [List.getElem?_eq_getElem hlen] at h
      exact Option.some.inj h
    have htake : (mlist F I w c).take (j + 1) = (mlist F I w c).take j ++ [(F (w j), I (w j))] := by
      rw [List.take_succ_eq_append_getElem hlen, hget]
    have hdrop : (mlist F I w c).drop j = (F (w j), I (w j)) :: (mlist F I w c).drop (j + 1) := by
      rw [List.drop_eq_getElem_cons hlen, hget]
    rw [e0, L_Wire_endStreamOf_7, if_neg (ni_nonneg (a := j) (by omega))]
    simp only [cr6_0, zb1_some, w_ar hj80, m_ck hwj, s_isOnStream hwj, m_gi hwj (j := 2) rfl, e1]
    have keep : ofS s (F (w j), I (w j)) = false → ∃ c' w', L_Wire_endStreamOf_7 N (A + 6) s g (zC A X M F I J G K w e) (ni j - 1) = some ((), zC A X (zu M 6 (upd (M 6) 1 (ni c'))) F I J G K w' e) ∧ wperm w' 80 ∧ c' ≤ c ∧
      mlist F I w' c' = ((mlist F I w c).take (j + 1)).filter (fun m => !ofS s m) ++ (mlist F I w c).drop (j + 1) := by
      intro hk
      obtain ⟨c', w', q1, q2, q3, q4⟩ := ih g c M w hc hc80 hw (by omega) (by omega)
      refine ⟨c', w', q1, q2, q3, ?_⟩
      rw [q4, htake, hdrop, List.filter_append]
      simp [hk]
    by_cases ho : onS (F (w j), I (w j)) = true
    · rw [if_pos ho, if_neg (by decide)]
      by_cases hs : F (w j) 2 = s
      · rw [if_pos hs, ck6, zb1_some, s_takeOut hc hc80 hw (show j < c by omega) hN, zb2_some]
        obtain ⟨c', w', q1, q2, q3, q4⟩ := ih g (c - 1) (zu M 6 (upd (M 6) 1 (ni (c - 1)))) (rot w j (c - 1)) (by rw [zu_same, upd_eq]) (by omega) (rot_perm hw (by omega) (by omega)) (by omega) (by omega)
        refine ⟨c', w', ?_, q2, by omega, ?_⟩
        · rw [q1, zu_zu, zu_same]
          congr 4
          funext q
          unfold upd
          split <;> rfl
        · rw [q4, mlist_rot F I w (show j < c by omega), htake, List.filter_append]
          have hk : ofS s (F (w j), I (w j)) = true := by simp [ofS, ho, hs]
          rw [List.eraseIdx_eq_take_drop_succ]
          have hl : ((mlist F I w c).take j).length = j := by rw [List.length_take, mlist_len]; omega
          rw [List.take_append_of_le_length (by omega), List.drop_append_of_le_length (by omega), List.take_of_length_le (by omega), List.drop_of_length_le (by omega)]
          simp [hk]
      · rw [if_neg hs]
        exact keep (by simp [ofS, hs])
    · rw [if_neg ho, if_pos rfl]
      exact keep (by simp [ofS, ho])
theorem s_endStream {c : Nat} (s : Int32) (hc : M 6 1 = ni c) (hc80 : c ≤ 80) (hw : wperm w 80) (hN : 100 < N) :
    ∃ c' w', f_Wire_endStreamOf N (zC A X M F I J G K w e) (A + 6) s = some ((), zC A X (zu M 6 (upd (M 6) 1 (ni c'))) F I J G K w' e) ∧ wperm w' 80 ∧ c' ≤ c ∧ mlist F I w' c' = (mlist F I w c).filter fun m => !ofS s m := by
  obtain ⟨c', w', q1, q2, q3, q4⟩ := s_endStream_L (N := N) (A := A) (X := X) (F := F) (I := I) (J := J) (G := G) (K := K) (e := e) s hN c N c M w hc hc80 hw (Nat.le_refl c) (by omega)
  refine ⟨c', w', ?_, q2, q3, ?_⟩
  · unfold f_Wire_endStreamOf
    rw [cg6_1, zb1_some, hc, q1, zb2_some]
  · rw [q4, List.take_of_length_le (by rw [mlist_len]; omega), List.drop_of_length_le (by rw [mlist_len]; omega), List.append_nil]
theorem s_behind_L {i : Nat} (hw : wperm w 80) (hi : i < 80) : ∀ (m b f : Nat), b + m = i → m < f →
    L_Wire_isBehindAnotherPart_17 N (zC A X M F I J G K w e) (A + 6) (ni i) f (ni b) = some (pif (∃ q, b ≤ q ∧ q < i ∧ F (w q) 1 = 5 ∧ F (w q) 2 = F (w i) 2) (.inl 1) (.inr ())) := by
  intro m
  induction m with
  | zero =>
    intro b f h3 h4
    obtain ⟨g, rfl⟩ : ∃ g, f = g + 1 := ⟨f - 1, by omega⟩
    rw [L_Wire_isBehindAnotherPart_17, if_pos ((zle (i := b) (m := i) (by omega) (by omega)).mpr (by omega)), pif_neg]
    rintro ⟨q, q1, q2, -⟩
    omega
  | succ m ih =>
    intro b f h3 h4
    obtain ⟨g, rfl⟩ : ∃ g, f = g + 1 := ⟨f - 1, by omega⟩
    have hb := hw.1 b (by omega)
    rw [L_Wire_isBehindAnotherPart_17, if_neg (fun q => absurd ((zle (i := b) (m := i) (by omega) (by omega)).mp q) (by omega))]
    simp only [cr6_0, zb1_some, w_ar (show b < 80 by omega), m_gi hb (j := 1) rfl, m_gi hb (j := 2) rfl, w_ar hi, m_gi (hw.1 i hi) (j := 2) rfl, ni_succ, ih (b + 1) g (by omega) (by omega)]
    by_cases h5 : F (w b) 1 = 5
    · rw [if_pos h5]
      by_cases hs : F (w b) 2 = F (w i) 2
      · rw [if_pos hs, pif_pos ⟨b, Nat.le_refl b, by omega, h5, hs⟩]
      · rw [if_neg hs]
        congr 1
        apply pif_congr
        constructor
        · rintro ⟨q, q1, q2, q3, q4⟩
          exact ⟨q, by omega, q2, q3, q4⟩
        · rintro ⟨q, q1, q2, q3, q4⟩
          refine ⟨q, ?_, q2, q3, q4⟩
          by_cases hq : q = b
          · subst hq
            exact absurd q4 hs
          · omega
    · rw [if_neg h5]
      congr 1
      apply pif_congr
      constructor
      · rintro ⟨q, q1, q2, q3, q4⟩
        exact ⟨q, by omega, q2, q3, q4⟩
      · rintro ⟨q, q1, q2, q3, q4⟩
        refine ⟨q, ?_, q2, q3, q4⟩
        by_cases hq : q = b
        · subst hq
          exact absurd q3 h5
        · omega
theorem s_behind {i : Nat} (hw : wperm w 80) (hi : i < 80) (hN : 100 < N) : f_Wire_isBehindAnotherPart N (zC A X M F I J G K w e) (A + 6) (ni i) = some (pif (F (w i) 1 = 5 ∧ ∃ q, q < i ∧ F (w q) 1 = 5 ∧ F (w q) 2 = F (w i) 2) 1 0) := by
  unfold f_Wire_isBehindAnotherPart
  rw [cr6_0, zb1_some, w_ar hi, zb1_some, m_gi (hw.1 i hi) (j := 1) rfl, zb1_some, show (0 : Int32) = ni 0 from rfl, s_behind_L hw hi i 0 N (by omega) (by omega)]
  by_cases h5 : F (w i) 1 = 5
  · rw [if_pos h5]
    by_cases h : ∃ q, q < i ∧ F (w q) 1 = 5 ∧ F (w q) 2 = F (w i) 2
    · have hA : F (w i) 1 = 5 ∧ ∃ q, q < i ∧ F (w q) 1 = 5 ∧ F (w q) 2 = F (w i) 2 := ⟨h5, h⟩
      have hB : ∃ q, 0 ≤ q ∧ q < i ∧ F (w q) 1 = 5 ∧ F (w q) 2 = F (w i) 2 := by
        obtain ⟨q, q1⟩ := h
        exact ⟨q, Nat.zero_le q, q1⟩
      rw [pif_pos hA, pif_pos hB]
      rfl
    · have hA : ¬ (F (w i) 1 = 5 ∧ ∃ q, q < i ∧ F (w q) 1 = 5 ∧ F (w q) 2 = F (w i) 2) := fun q => h q.2
      have hB : ¬ ∃ q, 0 ≤ q ∧ q < i ∧ F (w q) 1 = 5 ∧ F (w q) 2 = F (w i) 2 := fun ⟨q, _, q1⟩ => h ⟨q, q1⟩
      rw [pif_neg hA, pif_neg hB]
      rfl
  · have hA : ¬ (F (w i) 1 = 5 ∧ ∃ q, q < i ∧ F (w q) 1 = 5 ∧ F (w q) 2 = F (w i) 2) := fun q => h5 q.1
    rw [if_neg h5, pif_neg hA]
theorem s_at {c : Nat} (hc : M 6 1 = ni c) (hc80 : c ≤ 80) (i : Int32) : f_Wire_at N (zC A X M F I J G K w e) (A + 6) i = some (if 0 ≤ i ∧ i.toNatClampNeg < c then some (A + (8 + 2 * w i.toNatClampNeg)) else none) := by
  unfold f_Wire_at
  rw [cg6_1, zb1_some, s_within, zb1_some, hc]
  by_cases h0 : 0 ≤ i
  · have hi := ni_of h0
    have hl := Int32.toNatClampNeg_lt i
    by_cases h1 : i.toNatClampNeg < c
    · have h2 : 0 ≤ i ∧ i ≤ ni c - 1 := by
        refine ⟨h0, ?_⟩
        rw [ni_pred (a := c) (by omega)]
        have h3 := (ni_le (a := i.toNatClampNeg) (b := c - 1) (by omega) (by omega)).mpr (by omega)
        rw [← hi] at h3
        exact h3
      have h5 : 0 ≤ i ∧ i.toNatClampNeg < c := ⟨h0, h1⟩
      have h3 : zar (zC A X M F I J G K w e) 3 (A + 7) i = some (A + (8 + 2 * w i.toNatClampNeg)) := by
        have h4 := w_ar (A := A) (X := X) (M := M) (F := F) (I := I) (J := J) (G := G) (K := K) (w := w) (e := e) (i := i.toNatClampNeg) (by omega)
        rwa [← hi] at h4
      rw [if_pos h2, if_neg (by decide), cr6_0, zb1_some, if_pos h5, h3, zb1_some]
    · have h2 : ¬ (0 ≤ i ∧ i ≤ ni c - 1) := by
        rintro ⟨-, q⟩
        by_cases hz : c = 0
        · subst hz
          have hm : (ni 0 - 1 : Int32) < 0 := by decide
          exact absurd (Int32.le_trans h0 q) (Int32.not_le.mpr hm)
        · rw [ni_pred (a := c) (by omega), hi] at q
          have h3 := (ni_le (a := i.toNatClampNeg) (b := c - 1) (by omega) (by omega)).mp q
          omega
      have h5 : ¬ (0 ≤ i ∧ i.toNatClampNeg < c) := fun q => h1 q.2
      rw [if_neg h2, if_pos rfl, if_neg h5]
  · have h2 : ¬ (0 ≤ i ∧ i ≤ ni c - 1) := fun q => h0 q.1
    have h5 : ¬ (0 ≤ i ∧ i.toNatClampNeg < c) := fun q => h0 q.1
    rw [if_neg h2, if_pos rfl, if_neg h5]
end ZWIRE
