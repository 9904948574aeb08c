/-! a message that may be lost is sent, on both sides -/
theorem simT_len {s0 : Int32} {V : Nat → Nat → Bool} {n s : Nat} {f fr fi : Nat → Int32} {up0 up6 : Int32} {R5 : Nat → Int32} {S : List zMsg} (h : SimT s0 V n s f fr fi up0 up6 R5 S) : S.length ≤ 28 := by
  rcases h with h | ⟨-, -, -, -, h⟩
  · rw [h]
    exact Nat.zero_le 28
  · rcases h with ⟨m, hm, -⟩ | ⟨k0, b, wh, q1, -⟩
    · rw [hm]
      exact Nat.succ_le_of_lt (by decide : 0 < 28)
    · omega
theorem len_split : ∀ L : List zMsg, (∀ m ∈ L, m.1 2 = 1 ∨ m.1 2 = 2) → L.length = L.countP (fun m => !onS m) + (L.filter (ofS 1)).length + (L.filter (ofS 2)).length
  | [], _ => rfl
  | m :: l, h => by
    have ih := len_split l fun x hx => h x (List.mem_cons_of_mem _ hx)
    have hm := h m List.mem_cons_self
    rw [List.length_cons, List.countP_cons]
    cases ho : onS m with
    | false =>
      have f1 : ofS 1 m = false := by unfold ofS; rw [ho]; rfl
      have f2 : ofS 2 m = false := by unfold ofS; rw [ho]; rfl
      rw [List.filter_cons_of_neg (by rw [f1]; decide), List.filter_cons_of_neg (by rw [f2]; decide)]
      simp
      omega
    | true =>
      rcases hm with q | q
      · have f1 : ofS 1 m = true := by unfold ofS; rw [ho, q]; decide
        have f2 : ofS 2 m = false := by unfold ofS; rw [ho, q]; decide
        rw [List.filter_cons_of_pos f1, List.filter_cons_of_neg (by rw [f2]; decide), List.length_cons]
        simp
        omega
      · have f1 : ofS 1 m = false := by unfold ofS; rw [ho, q]; decide
        have f2 : ofS 2 m = true := by unfold ofS; rw [ho, q]; decide
        rw [List.filter_cons_of_neg (by rw [f1]; decide), List.filter_cons_of_pos f2, List.length_cons]
        simp
        omega
theorem rel2_sec : ∀ (L : List zMsg) (L' : List zRm), rel2 L L' → ∀ m ∈ L, m.1 2 = 1 ∨ m.1 2 = 2
  | [], [], _, m, hm => by simp at hm
  | [], r :: l', h, _, _ => h.elim
  | x :: l, [], h, _, _ => h.elim
  | x :: l, r :: l', h, m, hm => by
    rcases List.mem_cons.mp hm with rfl | h1
    · rw [h.1.2.1]
      exact h.1.2.2.2.2.1
    · exact rel2_sec l l' h.2 m h1
section ZSIM9
variable {A B : Nat} {X Y : zh_T} {M F I J G K : Nat → Nat → Int32} {w e : Nat → Nat} {R : Nat → Nat → Int32} {N n c jc pd : Nat} {s0 : Int32} {V : Nat → Nat → Bool}
/-- there is room for what may be lost -/
theorem room_lossy {M6 : Nat → Int32} {rm : Int32} {L : List zRm} (h : SimM F I w c M6 rm L) (h1 : ((mlist F I w c).filter (ofS 1)).length ≤ 28) (h2 : ((mlist F I w c).filter (ofS 2)).length ≤ 28) (hl : (mlist F I w c).countP (fun m => !onS m) < 24) : c < 80 := by
  have e := len_split (mlist F I w c) (rel2_sec _ _ (simM_rel h))
  rw [mlist_len] at e
  omega
theorem simM_send {M6 : Nat → Int32} {rm : Int32} (h : SimM F I w c M6 rm (rlist R c)) {kd s sr : Int32} (hk : kd = 1 ∨ kd = 2 ∨ kd = 3) (hs : s = 1 ∨ s = 2) (hc : c < 80) (hl : (mlist F I w c).countP (fun m => !onS m) < 24) :
    SimM (zu F (w c) (putM (F (w c)) kd s sr)) I w (c + 1) (upd M6 1 (ni (c + 1))) (ni (c + 1)) (rlist (Rapp R c (kd, s, sr, 0, 0, 0, 0)) (c + 1)) ∧
    ∀ x : Int32, (mlist (zu F (w c) (putM (F (w c)) kd s sr)) I w (c + 1)).filter (ofS x) = (mlist F I w c).filter (ofS x) := by
  have hw := h.2.2.2.1
  have hon : onS (putM (F (w c)) kd s sr, I (w c)) = false := by
    show decide (kd = 4 ∨ kd = 5) = false
    rcases hk with q | q | q <;> rw [q] <;> decide
  have hm : mrel (putM (F (w c)) kd s sr, I (w c)) (kd, s, sr, 0, 0, 0, 0) := by
    refine ⟨rfl, rfl, rfl, ?_, hs, fun z => ?_, fun z => ?_, fun _ => ⟨rfl, rfl⟩⟩
    · rcases hk with q | q | q
      · exact Or.inl q
      · exact Or.inr (Or.inl q)
      · exact Or.inr (Or.inr (Or.inl q))
    · have z' : kd = 4 := z
      rw [z'] at hk
      exact absurd hk (by decide)
    · have z' : kd = 5 := z
      rw [z'] at hk
      exact absurd hk (by decide)
  have hml := mlist_putF (F := F) (I := I) hw hc (putM (F (w c)) kd s sr)
  constructor
  · refine simM_of (by omega) (upd_eq _ _ _) rfl hw ?_ ?_
    · rw [hml, Rapp_list]
      exact rel2_app _ _ (simM_rel h) ⟨hm, trivial⟩
    · rw [hml, List.countP_append]
      have h1 : [(putM (F (w c)) kd s sr, I (w c))].countP (fun m => !onS m) ≤ 1 := List.countP_le_length
      omega
  · intro x
    have f1 : ofS x (putM (F (w c)) kd s sr, I (w c)) = false := by unfold ofS; rw [hon]; rfl
    rw [hml, List.filter_append, List.filter_cons_of_neg (by rw [f1]; decide), List.filter_nil, List.append_nil]
/-- sendLossy against send: what is left of Sim is kept by rows that neither touches -/
theorem o_send {M6 : Nat → Int32} {rm : Int32} (hc0 : M 6 = M6) (hr0 : R 0 24 = rm) (h : SimM F I w c M6 rm (rlist R c)) (hb1 : b01 (R 22) 96) (hb2 : b01 (R 23) 96) (h1 : ((mlist F I w c).filter (ofS 1)).length ≤ 28) (h2 : ((mlist F I w c).filter (ofS 2)).length ≤ 28) {kd s sr : Int32} (hk : kd = 1 ∨ kd = 2 ∨ kd = 3) (hs : s = 1 ∨ s = 2) (hN : 300 < N) :
    ∃ c' F' M' R', f_Wire_sendLossy N (zC A X M F I J G K w e) (A + 6) kd s sr = some ((), zC A X M' F' I J G K w e) ∧ f_ZoneNodesModel_send N (zR B Y R) B kd s sr = some ((), zR B Y R') ∧ rfr R R' ∧ (∀ k, k ≠ 6 → M' k = M k) ∧ SimM F' I w c' (M' 6) (R' 0 24) (rlist R' c') ∧ ∀ x : Int32, (mlist F' I w c').filter (ofS x) = (mlist F I w c).filter (ofS x) := by
  subst hc0
  subst hr0
  have hh := h
  obtain ⟨m1, m2, m3, m4, -⟩ := hh
  have hcc : (mlist F I w c).countP (fun m => !onS m) = (rlist R c).countP (fun m => decide (m.1 < 4)) := rel2_countP mrel_lossy (simM_rel h)
  rw [s_sendLossy m2 m1 m4 (by omega) kd s sr (room_lossy h h1 h2), k_send m3 (by omega) (by omega) kd s sr (fun z => by have := room_lossy h h1 h2 (by rw [hcc]; exact z); omega), ← hcc]
  by_cases hl : (mlist F I w c).countP (fun m => !onS m) < 24
  · have hc := room_lossy h h1 h2 hl
    obtain ⟨q1, q2⟩ := simM_send (R := R) (sr := sr) h hk hs hc hl
    rw [if_pos hl, if_pos hl]
    exact ⟨c + 1, _, _, _, rfl, rfl, Rapp_fr hb1 hb2 (Or.inl rfl) (Or.inl rfl), fun k hk6 => zu_ne _ hk6, q1, q2⟩
  · rw [if_neg hl, if_neg hl]
    exact ⟨c, F, M, R, rfl, rfl, rfr.refl hb1 hb2, fun _ _ => rfl, h, fun _ => rfl⟩
end ZSIM9
