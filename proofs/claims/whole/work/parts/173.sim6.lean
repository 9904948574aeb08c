/-! lists of messages, class against reference -/
def rel2 : List zMsg → List zRm → Prop
  | [], [] => True
  | m :: l, r :: l' => mrel m r ∧ rel2 l l'
  | _, _ => False
theorem rel2_of : ∀ (L : List zMsg) (L' : List zRm), L'.length = L.length → (∀ (i : Nat) (m : zMsg) (r : zRm), L[i]? = some m → L'[i]? = some r → mrel m r) → rel2 L L'
  | [], [], _, _ => trivial
  | [], r :: l', h, _ => by simp at h
  | m :: l, [], h, _ => by simp at h
  | m :: l, r :: l', h, hp => ⟨hp 0 m r rfl rfl, rel2_of l l' (by simpa using h) fun i m1 r1 h1 h2 => hp (i + 1) m1 r1 (by simpa using h1) (by simpa using h2)⟩
theorem rel2_get : ∀ (L : List zMsg) (L' : List zRm), rel2 L L' → L'.length = L.length ∧ ∀ (i : Nat) (m : zMsg) (r : zRm), L[i]? = some m → L'[i]? = some r → mrel m r
  | [], [], _ => ⟨rfl, fun i m r h1 _ => by simp at h1⟩
  | [], r :: l', h => h.elim
  | m :: l, [], h => h.elim
  | m :: l, r :: l', h => by
    obtain ⟨e, hp⟩ := rel2_get l l' h.2
    refine ⟨by simp [e], fun i m1 r1 h1 h2 => ?_⟩
    cases i with
    | zero =>
      simp at h1 h2
      rw [← h1, ← h2]
      exact h.1
    | succ i => exact hp i m1 r1 (by simpa using h1) (by simpa using h2)
theorem rel2_filter {p : zMsg → Bool} {q : zRm → Bool} (hpq : ∀ m r, mrel m r → p m = q r) : ∀ (L : List zMsg) (L' : List zRm), rel2 L L' → rel2 (L.filter p) (L'.filter q)
  | [], [], _ => trivial
  | [], r :: l', h => h.elim
  | m :: l, [], h => h.elim
  | m :: l, r :: l', h => by
    have ih := rel2_filter hpq l l' h.2
    have e := hpq m r h.1
    cases hq : q r with
    | true =>
      rw [List.filter_cons_of_pos (by rw [e, hq]), List.filter_cons_of_pos hq]
      exact ⟨h.1, ih⟩
    | false =>
      rw [List.filter_cons_of_neg (by rw [e, hq]; decide), List.filter_cons_of_neg (by rw [hq]; decide)]
      exact ih
theorem rel2_app : ∀ (L : List zMsg) (L' : List zRm) {K1 : List zMsg} {K2 : List zRm}, rel2 L L' → rel2 K1 K2 → rel2 (L ++ K1) (L' ++ K2)
  | [], [], _, _, _, h => h
  | [], r :: l', _, _, h, _ => h.elim
  | m :: l, [], _, _, h, _ => h.elim
  | m :: l, r :: l', _, _, h, h' => ⟨h.1, rel2_app l l' h.2 h'⟩
theorem rel2_erase : ∀ (L : List zMsg) (L' : List zRm) (i : Nat), rel2 L L' → rel2 (L.eraseIdx i) (L'.eraseIdx i)
  | [], [], _, _ => trivial
  | [], r :: l', _, h => h.elim
  | m :: l, [], _, h => h.elim
  | m :: l, r :: l', 0, h => h.2
  | m :: l, r :: l', i + 1, h => ⟨h.1, rel2_erase l l' i h.2⟩
theorem rel2_countP {p : zMsg → Bool} {q : zRm → Bool} (hpq : ∀ m r, mrel m r → p m = q r) {L : List zMsg} {L' : List zRm} (h : rel2 L L') : L.countP p = L'.countP q := by
  rw [List.countP_eq_length_filter, List.countP_eq_length_filter]
  exact (rel2_get _ _ (rel2_filter hpq L L' h)).1.symm
theorem mrel_onS {m : zMsg} {r : zRm} (h : mrel m r) : onS m = !decide (r.1 < 4) := by
  obtain ⟨h1, -, -, h4, -⟩ := h
  unfold onS
  rw [h1]
  rcases h4 with q | q | q | q | q <;> rw [q] <;> decide
theorem mrel_lossy (m : zMsg) (r : zRm) (h : mrel m r) : (!onS m) = decide (r.1 < 4) := by
  rw [mrel_onS h, Bool.not_not]
theorem mrel_ofS (s : Int32) (m : zMsg) (r : zRm) (h : mrel m r) : (!ofS s m) = !rOf s r := by
  unfold ofS rOf
  rw [mrel_onS h, h.2.1]
theorem simM_rel {F I : Nat → Nat → Int32} {w : Nat → Nat} {c : Nat} {M6 : Nat → Int32} {rm : Int32} {L : List zRm} (h : SimM F I w c M6 rm L) : rel2 (mlist F I w c) L :=
  rel2_of _ _ (by rw [mlist_len]; exact h.2.2.2.2.1) h.2.2.2.2.2.1
theorem simM_of {F I : Nat → Nat → Int32} {w : Nat → Nat} {c : Nat} {M6 : Nat → Int32} {rm : Int32} {L : List zRm} (h1 : c ≤ 80) (h2 : M6 1 = ni c) (h3 : rm = ni c) (h4 : wperm w 80) (h5 : rel2 (mlist F I w c) L) (h6 : (mlist F I w c).countP (fun m => !onS m) ≤ 24) : SimM F I w c M6 rm L := by
  obtain ⟨e, hp⟩ := rel2_get _ _ h5
  exact ⟨h1, h2, h3, h4, by rw [e, mlist_len], hp, h6⟩
/-- a message taken out on both sides -/
theorem simM_rem {F I : Nat → Nat → Int32} {w : Nat → Nat} {c i : Nat} {M6 : Nat → Int32} {rm : Int32} {R : Nat → Nat → Int32} (h : SimM F I w c M6 rm (rlist R c)) (hi : i < c) : SimM F I (rot w i (c - 1)) (c - 1) (upd M6 1 (ni (c - 1))) (ni (c - 1)) (rlist (Rrem R c i) (c - 1)) := by
  have h80 := h.1
  refine simM_of (by omega) (upd_eq _ _ _) rfl (rot_perm h.2.2.2.1 (by omega) (by omega)) ?_ ?_
  · rw [mlist_rot F I w hi, Rrem_list hi]
    exact rel2_erase _ _ i (simM_rel h)
  · rw [mlist_rot F I w hi]
    exact Nat.le_trans (List.Sublist.countP_le (List.eraseIdx_sublist _ _)) h.2.2.2.2.2.2
/-- a stream that ends on both sides -/
theorem simM_cut {F I : Nat → Nat → Int32} {w w' : Nat → Nat} {c c' c'' : Nat} {M6 : Nat → Int32} {rm : Int32} {R R' : Nat → Nat → Int32} (s : Int32) (h : SimM F I w c M6 rm (rlist R c)) (hw : wperm w' 80) (hc : c' ≤ c) (hl : mlist F I w' c' = (mlist F I w c).filter fun m => !ofS s m) (hc'' : c'' ≤ c) (hl' : rlist R' c'' = (rlist R c).filter fun m => !rOf s m) : c'' = c' ∧ SimM F I w' c' (upd M6 1 (ni c')) (ni c') (rlist R' c') := by
  have hr : rel2 (mlist F I w' c') (rlist R' c'') := by
    rw [hl, hl']
    exact rel2_filter (mrel_ofS s) _ _ (simM_rel h)
  have e := (rel2_get _ _ hr).1
  rw [rlist_len, mlist_len] at e
  subst e
  refine ⟨rfl, simM_of (by have := h.1; omega) (upd_eq _ _ _) rfl hw hr ?_⟩
  rw [hl]
  exact Nat.le_trans (List.Sublist.countP_le List.filter_sublist) h.2.2.2.2.2.2
