/-! the reference: messages taken out, sent -/
def Rrem (R : Nat → Nat → Int32) (c i : Nat) : Nat → Nat → Int32 := R7 (zu R 0 (upd (R 0) 24 (ni (c - 1)))) i (c - 1)
/-- nothing but the messages has changed -/
def rfr (R R' : Nat → Nat → Int32) : Prop := (∀ k, k ≠ 0 → k < 17 → R' k = R k) ∧ (∀ j, j ≠ 24 → R' 0 j = R 0 j) ∧ b01 (R' 22) 96 ∧ b01 (R' 23) 96
theorem rfr.trans {R R' R'' : Nat → Nat → Int32} (h : rfr R R') (h' : rfr R' R'') : rfr R R'' :=
  ⟨fun k a b => (h'.1 k a b).trans (h.1 k a b), fun j a => (h'.2.1 j a).trans (h.2.1 j a), h'.2.2⟩
theorem rfr.refl {R : Nat → Nat → Int32} (h1 : b01 (R 22) 96) (h2 : b01 (R 23) 96) : rfr R R := ⟨fun _ _ _ => rfl, fun _ _ => rfl, h1, h2⟩
theorem Rrem_fr {R : Nat → Nat → Int32} {c i : Nat} (hc : c ≤ 96) (h1 : b01 (R 22) 96) (h2 : b01 (R 23) 96) : rfr R (Rrem R c i) := by
  refine ⟨fun k a b => ?_, fun j a => ?_, ?_, ?_⟩
  · unfold Rrem R7
    rw [if_neg (by omega), zu_ne _ a]
  · show upd (R 0) 24 (ni (c - 1)) j = R 0 j
    exact upd_ne _ a
  · intro q hq
    show shI (R 22) i (c - 1) q = 0 ∨ shI (R 22) i (c - 1) q = 1
    unfold shI
    split
    · exact h1 _ (by omega)
    · exact h1 q hq
  · intro q hq
    show shI (R 23) i (c - 1) q = 0 ∨ shI (R 23) i (c - 1) q = 1
    unfold shI
    split
    · exact h2 _ (by omega)
    · exact h2 q hq
theorem Rrem_c (R : Nat → Nat → Int32) (c i : Nat) : Rrem R c i 0 24 = ni (c - 1) := rfl
theorem Rrem_list {R : Nat → Nat → Int32} {c i : Nat} (h : i < c) : rlist (Rrem R c i) (c - 1) = (rlist R c).eraseIdx i := by
  apply List.ext_getElem?
  intro q
  rw [List.getElem?_eraseIdx]
  by_cases h1 : q < c - 1
  · rw [rlist_get _ h1]
    by_cases h2 : q < i
    · rw [if_pos h2, rlist_get _ (show q < c by omega)]
      have e : ∀ k, 17 ≤ k → k ≤ 23 → Rrem R c i k q = R k q := by
        intro k a b
        unfold Rrem R7 shI
        rw [if_pos ⟨a, b⟩, if_neg (by omega), zu_ne _ (by omega)]
      unfold rmsg
      rw [e 17 (by decide) (by decide), e 18 (by decide) (by decide), e 19 (by decide) (by decide), e 20 (by decide) (by decide), e 21 (by decide) (by decide), e 22 (by decide) (by decide), e 23 (by decide) (by decide)]
    · rw [if_neg h2, rlist_get _ (show q + 1 < c by omega)]
      have e : ∀ k, 17 ≤ k → k ≤ 23 → Rrem R c i k q = R k (q + 1) := by
        intro k a b
        unfold Rrem R7 shI
        rw [if_pos ⟨a, b⟩, if_pos (by omega), zu_ne _ (by omega)]
      unfold rmsg
      rw [e 17 (by decide) (by decide), e 18 (by decide) (by decide), e 19 (by decide) (by decide), e 20 (by decide) (by decide), e 21 (by decide) (by decide), e 22 (by decide) (by decide), e 23 (by decide) (by decide)]
  · rw [rlist_out _ (by omega), if_neg (by omega), rlist_out _ (by omega)]
theorem Rapp_fr {R : Nat → Nat → Int32} {c : Nat} {m : zRm} (h1 : b01 (R 22) 96) (h2 : b01 (R 23) 96) (hf : m.2.2.2.2.2.1 = 0 ∨ m.2.2.2.2.2.1 = 1) (hl : m.2.2.2.2.2.2 = 0 ∨ m.2.2.2.2.2.2 = 1) : rfr R (Rapp R c m) := by
  refine ⟨fun k a b => ?_, fun j a => ?_, ?_, ?_⟩
  · unfold Rapp
    rw [zu_ne _ a, zu_ne _ (by omega), zu_ne _ (by omega), zu_ne _ (by omega), zu_ne _ (by omega), zu_ne _ (by omega), zu_ne _ (by omega), zu_ne _ (by omega)]
  · show upd (R 0) 24 (ni (c + 1)) j = R 0 j
    exact upd_ne _ a
  · exact b01_upd h1 hf
  · exact b01_upd h2 hl
theorem Rapp_c (R : Nat → Nat → Int32) (c : Nat) (m : zRm) : Rapp R c m 0 24 = ni (c + 1) := rfl
section ZREFO
variable {B : Nat} {Y : zh_T} {R : Nat → Nat → Int32} {N : Nat}
theorem k_remove {c i : Nat} (hc : R 0 24 = ni c) (hc96 : c ≤ 96) (hi : i < c) (h1 : b01 (R 22) 96) (h2 : b01 (R 23) 96) (hN : 100 < N) : f_ZoneNodesModel_remove N (zR B Y R) B (ni i) = some ((), zR B Y (Rrem R c i)) := by
  unfold f_ZoneNodesModel_remove
  rw [rg24, zb1_some, hc, ni_pred (by omega), rq24, zb1_some, k_remove_L (c := c - 1) (c - 1 - i) i N (zu R 0 (upd (R 0) 24 (ni (c - 1)))) rfl (by omega) h1 h2 (by omega) (by omega), zb2_some]
  rfl
def rOf (s : Int32) (m : zRm) : Bool := !decide (m.1 < 4) && decide (m.2.1 = s)
theorem k_cut_L (s : Int32) (hN : 100 < N) : ∀ (j f c : Nat) (R : Nat → Nat → Int32), R 0 24 = ni c → c ≤ 96 → b01 (R 22) 96 → b01 (R 23) 96 → j ≤ c → j < f →
    ∃ c' R', L_ZoneNodesModel_cutOff_7 N B s f (zR B Y R) (ni j - 1) = some ((), zR B Y R') ∧ R' 0 24 = ni c' ∧ c' ≤ c ∧ rfr R R' ∧ rlist R' c' = ((rlist R c).take j).filter (fun m => !rOf s m) ++ (rlist R c).drop j := by
  intro j
  induction j with
  | zero =>
    intro f c R hc hc96 h1 h2 hj hf
    obtain ⟨g, rfl⟩ : ∃ g, f = g + 1 := ⟨f - 1, by omega⟩
    refine ⟨c, R, ?_, hc, Nat.le_refl c, rfr.refl h1 h2, by simp⟩
    rw [L_ZoneNodesModel_cutOff_7, if_pos (by decide)]
  | succ j ih =>
    intro f c R hc hc96 h1 h2 hj hf
    obtain ⟨g, rfl⟩ : ∃ g, f = g + 1 := ⟨f - 1, by omega⟩
    have e0 : ni (j + 1) - 1 = ni j := ni_pred (by omega)
    have e1 : ni j + (-1) = ni j - 1 := (Int32.sub_eq_add_neg _ _).symm
    have hlen : j < (rlist R c).length := by rw [rlist_len]; omega
    have hget : (rlist R c)[j] = rmsg R j := by
      have h := rlist_get R (show j < c by omega)
      rw [List.getElem?_eq_getElem hlen] at h
      exact Option.some.inj h
    have htake : (rlist R c).take (j + 1) = (rlist R c).take j ++ [rmsg R j] := by
      rw [List.take_succ_eq_append_getElem hlen, hget]
    have hdrop : (rlist R c).drop j = rmsg R j :: (rlist R c).drop (j + 1) := by
      rw [List.drop_eq_getElem_cons hlen, hget]
    rw [e0, L_ZoneNodesModel_cutOff_7, if_neg (ni_nonneg (a := j) (by omega))]
    simp only [rr25, zb1_some, ra17 (show j < 96 by omega), rr26, ra18 (show j < 96 by omega), rck, e1]
    have keep : rOf s (rmsg R j) = false → ∃ c' R', L_ZoneNodesModel_cutOff_7 N B s g (zR B Y R) (ni j - 1) = some ((), zR B Y R') ∧ R' 0 24 = ni c' ∧ c' ≤ c ∧ rfr R R' ∧ rlist R' c' = ((rlist R c).take (j + 1)).filter (fun m => !rOf s m) ++ (rlist R c).drop (j + 1) := by
      intro hk
      obtain ⟨c', R', q1, q2, q3, q4, q5⟩ := ih g c R hc hc96 h1 h2 (by omega) (by omega)
      refine ⟨c', R', q1, q2, q3, q4, ?_⟩
      rw [q5, htake, hdrop, List.filter_append]
      simp [hk]
    by_cases hk : R 17 j < 4
    · rw [if_pos hk]
      exact keep (by unfold rOf rmsg; simp [hk])
    · rw [if_neg hk]
      by_cases hs : R 18 j = s
      · rw [if_pos hs, k_remove hc hc96 (show j < c by omega) h1 h2 hN, zb2_some]
        obtain ⟨c', R', q1, q2, q3, q4, q5⟩ := ih g (c - 1) (Rrem R c j) (Rrem_c R c j) (by omega) (Rrem_fr hc96 h1 h2).2.2.1 (Rrem_fr hc96 h1 h2).2.2.2 (by omega) (by omega)
        refine ⟨c', R', q1, q2, by omega, (Rrem_fr hc96 h1 h2).trans q4, ?_⟩
        rw [q5, Rrem_list (show j < c by omega), htake, List.filter_append]
        have hk' : rOf s (rmsg R j) = true := by unfold rOf rmsg; simp [hk, hs]
        rw [List.eraseIdx_eq_take_drop_succ]
        have hl : ((rlist R c).take j).length = j := by rw [List.length_take, rlist_len]; omega
        rw [List.take_append_of_le_length (by omega), List.drop_append_of_le_length (by omega), List.take_of_length_le (by omega), List.drop_of_length_le (by omega)]
        simp [hk']
      · rw [if_neg hs]
        exact keep (by unfold rOf rmsg; simp [hs])
theorem k_cutOff {c : Nat} (s : Int32) (hc : R 0 24 = ni c) (hc96 : c ≤ 96) (h1 : b01 (R 22) 96) (h2 : b01 (R 23) 96) (hN : 100 < N) :
    ∃ c' R', f_ZoneNodesModel_cutOff N (zR B Y R) B s = some ((), zR B Y R') ∧ R' 0 24 = ni c' ∧ c' ≤ c ∧ rfr R R' ∧ rlist R' c' = (rlist R c).filter fun m => !rOf s m := by
  obtain ⟨c', R', q1, q2, q3, q4, q5⟩ := k_cut_L (N := N) (B := B) (Y := Y) s hN c N c R hc hc96 h1 h2 (Nat.le_refl c) (by omega)
  refine ⟨c', R', ?_, q2, q3, q4, ?_⟩
  · unfold f_ZoneNodesModel_cutOff
    rw [rg24, zb1_some, hc, q1, zb2_some]
  · rw [q5, List.take_of_length_le (by rw [rlist_len]; omega), List.drop_of_length_le (by rw [rlist_len]; omega), List.append_nil]
theorem k_send_L {c : Nat} (hc : R 0 24 = ni c) (hc96 : c ≤ 96) (a b d : Int32) : ∀ (m i f v : Nat), i + m = c → m < f →
    L_ZoneNodesModel_send_6 N (zR B Y R) B a b d f (ni v) (ni i) = some (ni (v + ((rlist R c).drop i).countP fun m => decide (m.1 < 4))) := by
  intro m
  induction m with
  | zero =>
    intro i f v h3 h4
    obtain ⟨g, rfl⟩ : ∃ g, f = g + 1 := ⟨f - 1, by omega⟩
    rw [L_ZoneNodesModel_send_6, rg24, zb1_some, hc, if_pos ((zle (i := i) (m := c) (by omega) (by omega)).mpr (by omega)), List.drop_eq_nil_of_le (by rw [rlist_len]; omega)]
    rfl
  | succ m ih =>
    intro i f v h3 h4
    obtain ⟨g, rfl⟩ : ∃ g, f = g + 1 := ⟨f - 1, by omega⟩
    have hi : i < (rlist R c).length := by rw [rlist_len]; omega
    have hg : (rlist R c)[i] = rmsg R i := by
      have := rlist_get R (show i < c by omega)
      rw [List.getElem?_eq_getElem hi] at this
      exact Option.some.inj this
    rw [L_ZoneNodesModel_send_6, rg24, zb1_some, hc, if_neg (fun q => absurd ((zle (i := i) (m := c) (by omega) (by omega)).mp q) (by omega)), rr25, zb1_some, ra17 (i := i) (by omega), zb1_some, List.drop_eq_getElem_cons hi, List.countP_cons, hg, Int32.add_zero, ni_succ, ni_succ, ih (i + 1) g v (by omega) (by omega), ih (i + 1) g (v + 1) (by omega) (by omega)]
    by_cases hk : R 17 i < 4
    · have hk2 : (rmsg R i).1 < 4 := hk
      rw [if_neg (Int32.not_le.mpr hk)]
      simp [hk2]
      congr 1
      omega
    · have hk2 : ¬ (rmsg R i).1 < 4 := hk
      rw [if_pos (Int32.not_lt.mp hk)]
      simp [hk2]
theorem k_send {c : Nat} (hc : R 0 24 = ni c) (hc96 : c ≤ 96) (hN : 100 < N) (a b d : Int32) (hroom : (rlist R c).countP (fun m => decide (m.1 < 4)) < 24 → c < 96) : f_ZoneNodesModel_send N (zR B Y R) B a b d =
    some ((), if (rlist R c).countP (fun m => decide (m.1 < 4)) < 24 then zR B Y (Rapp R c (a, b, d, 0, 0, 0, 0)) else zR B Y R) := by
  unfold f_ZoneNodesModel_send
  have e := k_send_L (N := N) (B := B) (Y := Y) hc hc96 a b d c 0 N 0 (by omega) (by omega)
  rw [List.drop_zero, Nat.zero_add] at e
  have e' : L_ZoneNodesModel_send_6 N (zR B Y R) B a b d N 0 0 = some (ni ((rlist R c).countP fun m => decide (m.1 < 4))) := e
  have hcl : (rlist R c).countP (fun m => decide (m.1 < 4)) ≤ 96 := Nat.le_trans List.countP_le_length (by rw [rlist_len]; exact hc96)
  rw [e', zb1_some]
  clear e e'
  generalize (rlist R c).countP (fun m => decide (m.1 < 4)) = q at hroom hcl ⊢
  by_cases h1 : q < 24
  · rw [if_neg (show ¬ (24 : Int32) ≤ ni q from fun z => absurd ((ni_le (a := 24) (b := q) (by decide) (by omega)).mp z) (by omega)), if_pos h1, rck, zb1_some, k_append hc (hroom h1) _ _ _ _ _ _ _ (Or.inl rfl) (Or.inl rfl), zb2_some]
  · rw [if_pos (show (24 : Int32) ≤ ni q from (ni_le (a := 24) (b := q) (by decide) (by omega)).mpr (by omega)), if_neg h1]
end ZREFO
