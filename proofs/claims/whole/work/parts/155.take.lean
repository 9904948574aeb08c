/-! a PART at a secondary -/
def appI (it : Nat → Nat × Nat) : Nat → Nat → (Nat → Bool) → (Nat → Bool)
  | _, 0, s => s
  | i, m + 1, s => appI it (i + 1) m (sItem s (it i).1 (it i).2)
theorem sItem_eq {s t : Nat → Bool} (h : sEq s t) (f q : Nat) : sEq (sItem s f q) (sItem t f q) := by
  intro p hp
  unfold sItem
  by_cases hf : f = 1
  · rw [if_pos hf, if_pos hf]
    unfold sDel
    rw [h p hp]
  · rw [if_neg hf, if_neg hf]
    unfold sPut
    rw [h p hp]
theorem appI_eq (it : Nat → Nat × Nat) : ∀ (m i : Nat) {s t : Nat → Bool}, sEq s t → sEq (appI it i m s) (appI it i m t)
  | 0, _, _, _, h => h
  | m + 1, i, _, _, h => appI_eq it m (i + 1) (sItem_eq h _ _)
section ZTAKE
variable {A : Nat} {X : zh_T} {M F I J G K : Nat → Nat → Int32} {w e : Nat → Nat} {N k : Nat}
theorem C_copyI (h : k = 202 ∨ k = 207) (hN : 100 < N) : f_Records_copyFrom N (zC A X M F I J G K w e) (A + (k + 3)) (A + (k + 1)) = some ((), zC A X (zu M (k + 3 + 1) (zmix 0 (M (k + 3 + 1)) (M (k + 1 + 1)))) F I J G K w e) := by
  rw [zC, s_copyFrom (shC_R3 h).1 (shC_R1 h).1 (by omega) hN, zu_fix (shC_R3 h).2, mC_fix (shC_R3 h).2, mC_fix (shC_R1 h).2, zC]
theorem C_copyR (h : k = 202 ∨ k = 207) (hN : 100 < N) : f_Records_copyFrom N (zC A X M F I J G K w e) (A + (k + 1)) (A + (k + 3)) = some ((), zC A X (zu M (k + 1 + 1) (zmix 0 (M (k + 1 + 1)) (M (k + 3 + 1)))) F I J G K w e) := by
  rw [zC, s_copyFrom (shC_R1 h).1 (shC_R3 h).1 (by omega) hN, zu_fix (shC_R1 h).2, mC_fix (shC_R1 h).2, mC_fix (shC_R3 h).2, zC]
theorem C_emptyI (h : k = 202 ∨ k = 207) (hN : 100 < N) : f_Records_empty N (zC A X M F I J G K w e) (A + (k + 3)) = some ((), zC A X (zu M (k + 3 + 1) (zmix 0 (M (k + 3 + 1)) (fun _ => 0))) F I J G K w e) := by
  rw [zC, s_empty (shC_R3 h).1 hN, zu_fix (shC_R3 h).2, mC_fix (shC_R3 h).2, zC]
theorem C_takeItem (h : k = 202 ∨ k = 207) {f q : Nat} (hf : f < 2) (hq : q < 256) (hg : okS (M (k + 3 + 1))) : ∃ g', f_Records_takeItem N (zC A X M F I J G K w e) (A + (k + 3)) (cod f q) = some ((), zC A X (zu M (k + 3 + 1) g') F I J G K w e) ∧ isChg (M (k + 3 + 1)) g' (sItem (cs (M (k + 3 + 1))) f q) := by
  have hm : mC M F I J G K (k + 3 + 1) = M (k + 3 + 1) := mC_fix (shC_R3 h).2
  obtain ⟨g', q1, q2⟩ := s_takeItem (N := N) (A := A) (X := X) (M := mC M F I J G K) (P := pC w e) (shC_R3 h).1 hf hq (by rw [hm]; exact hg)
  rw [hm] at q2
  refine ⟨g', ?_, q2⟩
  rw [zC, q1, zu_fix (shC_R3 h).2, zC]
theorem s_take_L (h : k = 202 ∨ k = 207) {x n : Nat} (hx : x < 80) (h6 : F x 6 = ni n) (hn : n ≤ 4) (it : Nat → Nat × Nat) (hit : ∀ i, i < n → (it i).1 < 2 ∧ (it i).2 < 256 ∧ I x i = cod (it i).1 (it i).2) (now : Int32) : ∀ (m i f : Nat) (M : Nat → Nat → Int32), okS (M (k + 3 + 1)) → i + m = n → m < f →
    ∃ g', L_Secondary_takePart_17 N (A + k) (A + (8 + 2 * x)) now f (zC A X M F I J G K w e) (ni i) = some ((), zC A X (zu M (k + 3 + 1) g') F I J G K w e) ∧ isChg (M (k + 3 + 1)) g' (appI it i m (cs (M (k + 3 + 1)))) := by
  intro m
  induction m with
  | zero =>
    intro i f M hg h3 h4
    obtain ⟨g, rfl⟩ : ∃ g, f = g + 1 := ⟨f - 1, by omega⟩
    refine ⟨M (k + 3 + 1), ?_, hg, fun q => rfl⟩
    rw [L_Secondary_takePart_17, m_gi hx (j := 6) rfl, zb1_some, h6, if_pos ((zle (i := i) (m := n) (by omega) (by omega)).mpr (by omega)), zu_id]
  | succ m ih =>
    intro i f M hg h3 h4
    obtain ⟨g, rfl⟩ : ∃ g, f = g + 1 := ⟨f - 1, by omega⟩
    obtain ⟨i1, i2, i3⟩ := hit i (by omega)
    obtain ⟨g1, q1, q2, q3⟩ := C_takeItem (N := N) (A := A) (X := X) (F := F) (I := I) (J := J) (G := G) (K := K) (w := w) (e := e) h i1 i2 hg
    obtain ⟨g2, p1, p2, p3⟩ := ih (i + 1) g (zu M (k + 3 + 1) g1) (by rw [zu_same]; exact q2) (by omega) (by omega)
    rw [zu_same, show cs g1 = sItem (cs (M (k + 3 + 1))) (it i).1 (it i).2 from funext q3] at p3
    rw [zu_zu] at p1
    refine ⟨g2, ?_, p2, p3⟩
    rw [L_Secondary_takePart_17, m_gi hx (j := 6) rfl, zb1_some, h6, if_neg (fun q => absurd ((zle (i := i) (m := n) (by omega) (by omega)).mp q) (by omega)), x_g5 h, zb1_some, m_gr hx, zb1_some, m_ai hx (i := i) (by omega), zb1_some, i3, show zck (zC A X M F I J G K w e) (A + (k + 3)) 5 = some () from zl_ck (Nat.lt_of_succ_lt (shC_R3 h).1.1) (shC_R3 h).1.2.1, zb1_some, q1, zb2_some, ni_succ, p1]
/-- where the items of a PART are done: on what is there, or at first on the version or on nothing -/
def tkBase (M F : Nat → Nat → Int32) (k x : Nat) : Nat → Bool := if F x 5 = 0 then (if F x 7 = 0 then cs (M (k + 1 + 1)) else fun _ => false) else cs (M (k + 3 + 1))
def tkM (M F : Nat → Nat → Int32) (k x : Nat) (g : Nat → Int32) (now : Int32) : Nat → Nat → Int32 :=
  if F x 8 = 0 then zu M (k + 3 + 1) g else zu (zu (zu M (k + 3 + 1) g) (k + 1 + 1) (zmix 0 (M (k + 1 + 1)) g)) k (secRefr (upd (upd (M k) 8 (F x 4)) 7 1) now)
theorem s_tail (h : k = 202 ∨ k = 207) {x : Nat} (hx : x < 80) (g : Nat → Int32) (now : Int32) (hN : 100 < N) :
    (zb1 (zgi (zC A X (zu M (k + 3 + 1) g) F I J G K w e) (A + (8 + 2 * x)) 3 8) fun v51 => if v51 = 0 then some ((), zC A X (zu M (k + 3 + 1) g) F I J G K w e) else
      zb1 (zgr (zC A X (zu M (k + 3 + 1) g) F I J G K w e) (A + k) 6 4) fun a54 => zb1 (zgr (zC A X (zu M (k + 3 + 1) g) F I J G K w e) (A + k) 6 5) fun a56 => zb1 (zck (zC A X (zu M (k + 3 + 1) g) F I J G K w e) a54 5) fun _ => zb2 (f_Records_copyFrom N (zC A X (zu M (k + 3 + 1) g) F I J G K w e) a54 a56) fun _ X60 =>
      zb1 (zgi X60 (A + (8 + 2 * x)) 3 4) fun v62 => zb1 (zp X60 (A + k) 6 8 (.int v62)) fun X63 => zb1 (zpz X63 (A + k) 6 7 1) fun X65 => zb1 (zck X65 (A + k) 6) fun _ => zb2 (f_Secondary_becomeRefreshed N X65 (A + k) now) fun _ X70 => some ((), X70))
      = some ((), zC A X (tkM M F k x g now) F I J G K w e) := by
  have n1 : k ≠ k + 3 + 1 := by omega
  have n2 : k ≠ k + 1 + 1 := by omega
  have n3 : k + 1 + 1 ≠ k + 3 + 1 := by omega
  rw [m_gi hx (j := 8) rfl, zb1_some]
  unfold tkM
  by_cases h8 : F x 8 = 0
  · rw [if_pos h8, if_pos h8]
  · rw [if_neg h8, if_neg h8, x_g4 h, zb1_some, x_g5 h, zb1_some, show zck (zC A X (zu M (k + 3 + 1) g) F I J G K w e) (A + (k + 1)) 5 = some () from zl_ck (Nat.lt_of_succ_lt (shC_R1 h).1.1) (shC_R1 h).1.2.1, zb1_some, C_copyR h hN, zb2_some, m_gi hx (j := 4) rfl, zb1_some, x_p h (j := 8) rfl, zb1_some, x_pz h (j := 7) rfl (Or.inr rfl), zb1_some, x_ck h, zb1_some, s_refreshed h, zb2_some]
    rw [zu_zu, zu_zu, zu_same, zu_same, zu_same, zu_ne _ n2, zu_ne _ n1, zu_ne _ n3]
theorem s_takePart (h : k = 202 ∨ k = 207) {x n : Nat} (hx : x < 80) (h6 : F x 6 = ni n) (hn : n ≤ 4) (it : Nat → Nat × Nat) (hit : ∀ i, i < n → (it i).1 < 2 ∧ (it i).2 < 256 ∧ I x i = cod (it i).1 (it i).2) (now : Int32) (hR : okS (M (k + 1 + 1))) (hI : okS (M (k + 3 + 1))) (hN : 100 < N) :
    ∃ g', f_Secondary_takePart N (zC A X M F I J G K w e) (A + k) (A + (8 + 2 * x)) now = some ((), zC A X (tkM M F k x g' now) F I J G K w e) ∧ okS g' ∧ sEq (cs g') (appI it 0 n (tkBase M F k x)) := by
  have n1 : k ≠ k + 3 + 1 := by omega
  have n3 : k + 1 + 1 ≠ k + 3 + 1 := by omega
  unfold f_Secondary_takePart tkBase
  rw [m_gi hx (j := 5) rfl, zb1_some]
  have go : ∀ (g : Nat → Int32) (s : Nat → Bool), okS g → sEq (cs g) s → ∃ g', (zb2 (L_Secondary_takePart_17 N (A + k) (A + (8 + 2 * x)) now N (zC A X (zu M (k + 3 + 1) g) F I J G K w e) 0) fun _ X49 => zb1 (zgi X49 (A + (8 + 2 * x)) 3 8) fun v51 => if v51 = 0 then some ((), X49) else
      zb1 (zgr X49 (A + k) 6 4) fun a54 => zb1 (zgr X49 (A + k) 6 5) fun a56 => zb1 (zck X49 a54 5) fun _ => zb2 (f_Records_copyFrom N X49 a54 a56) fun _ X60 =>
      zb1 (zgi X60 (A + (8 + 2 * x)) 3 4) fun v62 => zb1 (zp X60 (A + k) 6 8 (.int v62)) fun X63 => zb1 (zpz X63 (A + k) 6 7 1) fun X65 => zb1 (zck X65 (A + k) 6) fun _ => zb2 (f_Secondary_becomeRefreshed N X65 (A + k) now) fun _ X70 => some ((), X70)) = some ((), zC A X (tkM M F k x g' now) F I J G K w e) ∧ okS g' ∧ sEq (cs g') (appI it 0 n s) := by
    intro g s hg hs
    obtain ⟨g', q1, q2, q3⟩ := s_take_L (N := N) (A := A) (X := X) (J := J) (G := G) (K := K) (w := w) (e := e) h hx h6 hn it hit now n 0 N (zu M (k + 3 + 1) g) (by rw [zu_same]; exact hg) (by omega) (by omega)
    rw [zu_zu] at q1
    rw [zu_same] at q3
    refine ⟨g', ?_, q2, fun q hq => (q3 q).trans (appI_eq it n 0 hs q hq)⟩
    rw [show (0 : Int32) = ni 0 from rfl, q1, zb2_some]
    exact s_tail h hx g' now hN
  by_cases h5 : F x 5 = 0
  · rw [if_pos h5, if_pos h5, m_gi hx (j := 7) rfl, zb1_some, x_ck h, zb1_some]
    unfold f_Secondary_beginIncoming
    by_cases h7 : F x 7 = 0
    · rw [if_pos h7, if_pos h7, x_g5 h, zb1_some, x_g4 h, zb1_some, show zck (zC A X M F I J G K w e) (A + (k + 3)) 5 = some () from zl_ck (Nat.lt_of_succ_lt (shC_R3 h).1.1) (shC_R3 h).1.2.1, zb1_some, C_copyI h hN, zb2_some, zb2_some]
      exact go _ _ (okS_mix _ hR) (fun q hq => cs_mix _ _ hq)
    · rw [if_neg h7, if_neg h7, x_g5 h, zb1_some, show zck (zC A X M F I J G K w e) (A + (k + 3)) 5 = some () from zl_ck (Nat.lt_of_succ_lt (shC_R3 h).1.1) (shC_R3 h).1.2.1, zb1_some, C_emptyI h hN, zb2_some, zb2_some]
      exact go _ _ (okS_mix _ (fun i _ => byt_zero)) (fun q hq => (cs_mix _ _ hq).trans (bt_zero _))
  · rw [if_neg h5, if_neg h5]
    have h1 := go (M (k + 3 + 1)) (cs (M (k + 3 + 1))) hI (sEq.rfl' _)
    rw [zu_id] at h1
    exact h1
end ZTAKE
