/-! deliver: lists, news, what is behind a PART -/
theorem filter_split {α : Type} {p : α → Bool} : ∀ (l : List α) (i : Nat) (x : α), l[i]? = some x → p x = true → ∃ a b, l.filter p = a ++ x :: b ∧ (l.eraseIdx i).filter p = a ++ b ∧ ∀ y ∈ a, ∃ q, q < i ∧ l[q]? = some y
  | [], _, _, h, _ => by simp at h
  | y :: l, 0, x, h, hp => by
    simp at h
    subst h
    exact ⟨[], l.filter p, by rw [List.filter_cons_of_pos hp]; rfl, rfl, fun z hz => by simp at hz⟩
  | y :: l, i + 1, x, h, hp => by
    obtain ⟨a, b, h1, h2, h3⟩ := filter_split l i x (by simpa using h) hp
    show ∃ a b, (y :: l).filter p = a ++ x :: b ∧ (y :: l.eraseIdx i).filter p = a ++ b ∧ ∀ z ∈ a, ∃ q, q < i + 1 ∧ (y :: l)[q]? = some z
    cases hy : p y with
    | true =>
      refine ⟨y :: a, b, by rw [List.filter_cons_of_pos hy, h1]; rfl, by rw [List.filter_cons_of_pos hy, h2]; rfl, fun z hz => ?_⟩
      rcases List.mem_cons.mp hz with e | e
      · exact ⟨0, by omega, by rw [e]; rfl⟩
      · obtain ⟨q, q1, q2⟩ := h3 z e
        exact ⟨q + 1, by omega, by simpa using q2⟩
    | false =>
      refine ⟨a, b, by rw [List.filter_cons_of_neg (by rw [hy]; decide), h1], by rw [List.filter_cons_of_neg (by rw [hy]; decide), h2], fun z hz => ?_⟩
      obtain ⟨q, q1, q2⟩ := h3 z hz
      exact ⟨q + 1, by omega, by simpa using q2⟩
theorem parts_kind (sr wh : Int32) (tgt : Nat → Bool) : ∀ (S : List zMsg) (k0 : Nat) (b : Nat → Bool), partsOk sr wh tgt S k0 b → ∀ m ∈ S, m.1 1 = 5
  | [], _, _, h, _, _ => h.elim
  | m :: r, k0, b, h, x, hx => by
    obtain ⟨l, it, -, -, h1, -, -, -, -, h2⟩ := h
    rcases List.mem_cons.mp hx with e | e
    · rw [e]
      exact h1
    · rcases h2 with ⟨z, -⟩ | ⟨-, -, z⟩
      · rw [z] at e
        simp at e
      · exact parts_kind sr wh tgt r (k0 + 1) _ z x e
theorem parts_eq (sr wh : Int32) (tgt : Nat → Bool) : ∀ (S : List zMsg) (k0 : Nat) (b b' : Nat → Bool), sEq b b' → partsOk sr wh tgt S k0 b → partsOk sr wh tgt S k0 b'
  | [], _, _, _, _, h => h
  | m :: r, k0, b, b', hb, h => by
    obtain ⟨l, it, a1, a2, a3, a4, a5, a6, a7, h2⟩ := h
    have e := appI_eq it l 0 hb
    refine ⟨l, it, a1, a2, a3, a4, a5, a6, a7, ?_⟩
    rcases h2 with ⟨z1, z2, z3⟩ | ⟨z1, z2, z3⟩
    · exact Or.inl ⟨z1, z2, fun q hq => (e q hq).symm.trans (z3 q hq)⟩
    · exact Or.inr ⟨z1, z2, parts_eq sr wh tgt r (k0 + 1) _ _ e z3⟩
section ZSIMK
variable {A B : Nat} {X Y : zh_T} {M F I J G K : Nat → Nat → Int32} {w e : Nat → Nat} {R : Nat → Nat → Int32} {N n c jc pd : Nat} {s0 : Int32} {V : Nat → Nat → Bool}
theorem k_isNews {s : Nat} (hs : s < 3) (told : Int32) : f_ZoneNodesModel_isNews N (zR B Y R) B (ni s) told = some (if R 2 s = 0 ∨ ¬ told - R 3 s ≤ 0 then 1 else 0) := by
  unfold f_ZoneNodesModel_isNews
  rw [rr5, zb1_some, ra2 hs, zb1_some]
  by_cases h1 : R 2 s = 0
  · rw [if_pos h1, if_pos (Or.inl h1)]
  · rw [if_neg h1, rr6, zb1_some, ra3 hs, zb1_some]
    by_cases h2 : told - R 3 s ≤ 0
    · rw [if_pos h2, if_neg (fun q => q.elim h1 (fun z => z h2))]
    · rw [if_neg h2, if_pos (Or.inr h2)]
theorem k_behind_L {i : Nat} (hi : i ≤ 96) (kd sec w4 w5 w6 : Int32) : ∀ (m b f : Nat), b + m = i → m < f →
    L_ZoneNodesModel_deliver_51 N (zR B Y R) B (ni i) kd sec w4 w5 w6 f (ni b) = some (pif (kd = 5 ∧ ∃ q, b ≤ q ∧ q < i ∧ R 17 q = 5 ∧ R 18 q = sec) (.inl 0) (.inr ())) := by
  intro m
  induction m with
  | zero =>
    intro b f h1 h2
    obtain ⟨g, rfl⟩ : ∃ g, f = g + 1 := ⟨f - 1, by omega⟩
    rw [L_ZoneNodesModel_deliver_51, if_pos ((zle (i := b) (m := i) (by omega) (by omega)).mpr (by omega)), pif_neg]
    rintro ⟨-, q, q1, q2, -⟩
    omega
  | succ m ih =>
    intro b f h1 h2
    obtain ⟨g, rfl⟩ : ∃ g, f = g + 1 := ⟨f - 1, by omega⟩
    have nx : L_ZoneNodesModel_deliver_51 N (zR B Y R) B (ni i) kd sec w4 w5 w6 g (ni b + 1) = some (pif (kd = 5 ∧ ∃ q, b + 1 ≤ q ∧ q < i ∧ R 17 q = 5 ∧ R 18 q = sec) (.inl 0) (.inr ())) := by
      rw [ni_succ, ih (b + 1) g (by omega) (by omega)]
    rw [L_ZoneNodesModel_deliver_51, if_neg (fun q => absurd ((zle (i := b) (m := i) (by omega) (by omega)).mp q) (by omega)), nx]
    have up : ¬ (R 17 b = 5 ∧ R 18 b = sec) → (pif (kd = 5 ∧ ∃ q, b + 1 ≤ q ∧ q < i ∧ R 17 q = 5 ∧ R 18 q = sec) (Sum.inl (0 : Int32)) (Sum.inr ())) = pif (kd = 5 ∧ ∃ q, b ≤ q ∧ q < i ∧ R 17 q = 5 ∧ R 18 q = sec) (.inl 0) (.inr ()) := by
      intro hno
      apply pif_congr
      constructor
      · rintro ⟨z, q, q1, q2, q3⟩
        exact ⟨z, q, by omega, q2, q3⟩
      · rintro ⟨z, q, q1, q2, q3⟩
        refine ⟨z, q, ?_, q2, q3⟩
        by_cases hq : q = b
        · rw [hq] at q3
          exact absurd q3 hno
        · omega
    by_cases hk : kd = 5
    · rw [if_pos hk, rr25, zb1_some, ra17 (i := b) (by omega), zb1_some]
      by_cases h5 : R 17 b = 5
      · rw [if_pos h5, rr26, zb1_some, ra18 (i := b) (by omega), zb1_some]
        by_cases h6 : R 18 b = sec
        · rw [if_pos h6, pif_pos ⟨hk, b, Nat.le_refl b, by omega, h5, h6⟩]
        · rw [if_neg h6, up (fun q => h6 q.2)]
      · rw [if_neg h5, up (fun q => h5 q.1)]
    · rw [if_neg hk, pif_neg (fun q => hk q.1), pif_neg (fun q => hk q.1)]
/-- a message taken out on both sides: what holds but for its stream -/
theorem SimX_rem (h : Sim s0 V n c jc pd M F I J G K w e R) {k : Nat} (hk : k < c) : SimX s0 V n (c - 1) jc pd (zu M 6 (upd (M 6) 1 (ni (c - 1)))) F I J G K (rot w k (c - 1)) e (Rrem R c k) := by
  have hM := sim_m h
  have hb := sim_b h
  have h80 := hM.1
  refine SimX_msgs (SimX_of h) (fun j hj => zu_ne _ hj) (Rrem_fr (by omega) hb.2.2.2.2.2.1 hb.2.2.2.2.2.2) ?_
  rw [zu_same, Rrem_c]
  exact simM_rem hM hk
theorem rem_other {k : Nat} (hk : k < c) {x : Int32} (hx : ofS x (F (w k), I (w k)) = false) : (mlist F I (rot w k (c - 1)) (c - 1)).filter (ofS x) = (mlist F I w c).filter (ofS x) := by
  rw [mlist_rot F I w hk, filter_erase _ k _ (mlist_get F I w hk) hx]
end ZSIMK
