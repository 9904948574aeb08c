/-! constructors: the class's object, all of it -/
def secF (num r1 r2 r3 : Int32) : Nat → Int32 := fun j => match j with
  | 0 => num
  | 1 => r1
  | 2 => r2
  | 3 => r3
  | 6 => 1
  | 10 => 0 + 1
  | 12 => 0 + r3
  | _ => 0
def priF (sr : Int32) : Nat → Int32 := fun j => match j with
  | 6 => sr
  | 8 => 1
  | _ => 0
/-- the class's numbers at first -/
def M0 (sr r1 r2 r3 : Int32) : Nat → Nat → Int32 := fun k => if k = 171 then put0 else if k = 169 then priF sr else if k = 202 then secF 1 r1 r2 r3 else if k = 207 then secF 2 r1 r2 r3 else fun _ => 0
def dflt (x lo hi d : Int32) : Int32 := if lo ≤ x ∧ x ≤ hi then x else d
section ZINI4
variable {c : Nat → zh_E} {n A k m N : Nat} {X : zh_T}
/-- the cells once all is made -/
def clF (c : Nat → zh_E) (A : Nat) (r1 r2 r3 : Int32) : Nat → zh_E := cu (scC (cu (scC c 202 A 1 r1 r2 r3) 168 (rowE 4 2 A 202 5 1)) 207 A 2 r1 r2 r3) 168 (rowE 4 2 A 202 5 2)
theorem i_secs {fs : List Value} {r1 r2 r3 : Int32} (h0 : c 0 = .inr (8, fs)) (h5 : fs[5]? = some (.ref (A + 168))) (h168 : c 168 = .inl (4, 2, .inr (.inr (.inr (.inr fun _ => none))))) : L_ZoneNodes_init_120 N A r1 r2 r3 3 (blk c 202 A X) 0 = some ((), blk (clF c A r1 r2 r3) 212 A X) := by
  have r0 : rowE 4 2 A 202 5 0 = .inl (4, 2, .inr (.inr (.inr (.inr fun _ => none)))) := by
    unfold rowE
    simp
  have lo1 : ∀ q, q < 202 → scC c 202 A 1 r1 r2 r3 q = c q := by
    intro q hq
    unfold scC
    rw [cu_ne _ (by omega), rcC_lo (by omega), rcC_lo (by omega)]
  rw [L_ZoneNodes_init_120, if_neg (by decide)]
  refine q_gr0 fs (by decide) h0 h5 ?_
  refine q_sec (m := 207) rfl ?_
  have bs1 := b_sr (A := A) (X := X) (n := 207) (c := scC c 202 A 1 r1 r2 r3) (k := 168) (t := 4) (d := 202) (i := 0) (len := 2) (ci := 6) (fs := scF A 202 1 r1 r2 r3) (f := fun j => if j < 0 then some (A + (202 + 5 * j)) else none) (by decide) (by rw [lo1 168 (by decide), h168, ← r0]; rfl) (by decide) (by decide) (by decide) (by exact cu_at _ _ _)
  rw [rowE_step A 202 5 0] at bs1
  have bs1' : zsr (blk (scC c 202 A 1 r1 r2 r3) 207 A X) 4 6 (A + 168) 0 (A + 202) = some (blk (cu (scC c 202 A 1 r1 r2 r3) 168 (rowE 4 2 A 202 5 1)) 207 A X) := bs1
  show zb1 (zsr (blk (scC c 202 A 1 r1 r2 r3) 207 A X) 4 6 (A + 168) 0 (A + 202)) (fun X58 => L_ZoneNodes_init_120 N A r1 r2 r3 2 X58 1) = _
  rw [bs1', zb1_some]
  have at168 : scC (cu (scC c 202 A 1 r1 r2 r3) 168 (rowE 4 2 A 202 5 1)) 207 A 2 r1 r2 r3 168 = rowE 4 2 A 202 5 1 := by
    unfold scC
    rw [cu_ne _ (show (168 : Nat) ≠ 207 by omega), rcC_lo (by omega), rcC_lo (by omega), cu_at]
  rw [L_ZoneNodes_init_120, if_neg (by decide)]
  refine q_gr0 fs (by decide) (by rw [cu_ne _ (by decide), lo1 0 (by decide), h0]) h5 ?_
  refine q_sec (m := 212) rfl ?_
  have bs := b_sr (A := A) (X := X) (n := 212) (c := scC (cu (scC c 202 A 1 r1 r2 r3) 168 (rowE 4 2 A 202 5 1)) 207 A 2 r1 r2 r3) (k := 168) (t := 4) (d := 207) (i := 1) (len := 2) (ci := 6) (fs := scF A 207 2 r1 r2 r3) (f := fun j => if j < 1 then some (A + (202 + 5 * j)) else none) (by decide) (by rw [at168]; rfl) (by decide) (by decide) (by decide) (by exact cu_at _ _ _)
  rw [rowE_step A 202 5 1] at bs
  have bs' : zsr (blk (scC (cu (scC c 202 A 1 r1 r2 r3) 168 (rowE 4 2 A 202 5 1)) 207 A 2 r1 r2 r3) 212 A X) 4 6 (A + 168) 1 (A + 207) = some (blk (clF c A r1 r2 r3) 212 A X) := bs
  show zb1 (zsr (blk (scC (cu (scC c 202 A 1 r1 r2 r3) 168 (rowE 4 2 A 202 5 1)) 207 A 2 r1 r2 r3) 212 A X) 4 6 (A + 168) 1 (A + 207)) (fun X58 => L_ZoneNodes_init_120 N A r1 r2 r3 1 X58 2) = _
  rw [bs', zb1_some, L_ZoneNodes_init_120, if_pos (by decide)]
theorem q_secs {β : Type} {r : Option β} {g : Unit → zh_T → Option β} {fs : List Value} {r1 r2 r3 : Int32} (h0 : c 0 = .inr (8, fs)) (h5 : fs[5]? = some (.ref (A + 168))) (h168 : c 168 = .inl (4, 2, .inr (.inr (.inr (.inr fun _ => none))))) (H : g () (blk (clF c A r1 r2 r3) 212 A X) = r) : zb2 (L_ZoneNodes_init_120 N A r1 r2 r3 3 (blk c 202 A X) 0) g = r := by
  rw [i_secs h0 h5 h168, zb2_some, H]
theorem blk_zC {M F I J G K : Nat → Nat → Int32} {w e : Nat → Nat} (h : ∀ k, k < 212 → c k = zl_c A (shC k) (mC M F I J G K k) (pC w e k)) : blk c 212 A X = zC A (X.1, A + 212) M F I J G K w e := by
  refine Prod.ext ?_ rfl
  funext q
  show (if A ≤ q ∧ q < A + 212 then some (c (q - A)) else X.1 q) = if A ≤ q ∧ q < A + 212 then some (zl_c A (shC (q - A)) (mC M F I J G K (q - A)) (pC w e (q - A))) else X.1 q
  by_cases hq : A ≤ q ∧ q < A + 212
  · rw [if_pos hq, if_pos hq, h (q - A) (by omega)]
  · rw [if_neg hq, if_neg hq]
def zz : Nat → Nat → Int32 := fun _ _ => 0
/-- the cells of the class's object, but for the primary and the secondaries -/
def preC (c : Nat → zh_E) (A : Nat) : Prop := c 0 = .inr (8, [.ref (A + 1), .ref (A + 2), .ref (A + 3), .ref (A + 6), .null, .ref (A + 168), .int 0]) ∧ c 168 = .inl (4, 2, .inr (.inr (.inr (.inr fun _ => none)))) ∧ ∀ k, 1 ≤ k → k < 168 → c k = zl_c A (shC k) (mC zz zz zz zz zz zz k) (pC id id k)
theorem i_J81 {sr x4 r1 r2 : Int32} (h : preC c A) : J_ZoneNodes_init_81 N (blk c 169 A X) A sr x4 r1 r2 = some ((), zC A (X.1, A + 212) (M0 sr r1 r2 (dflt x4 10 200 60)) zz zz zz zz zz id id) := by
  have h0 := h.1
  have h168 := h.2.1
  have go : ∀ r3 : Int32, (zb2 (znw (blk c 169 A X) 4 [.null, .null, .null, .null, .int 0, .int 0, .int 0, .int 0, .int 0]) fun a41 X42 => zb2 (f_Primary_init N X42 a41 sr) fun _ X46 => zb1 (zp X46 A 8 4 (.ref a41)) fun X47 => zb2 (L_ZoneNodes_init_120 N A r1 r2 r3 3 X47 0) fun _ X62 => some ((), X62)) = some ((), zC A (X.1, A + 212) (M0 sr r1 r2 r3) zz zz zz zz zz id id) := by
    intro r3
    simp only [f_Primary_init, f_Journal_init, zb2_zb2, zb2_zb1, zb2_some]
    refine q_nw (m := 170) rfl ?_
    refine q_rec (m := 172) rfl ?_
    refine q_p (k := 169) _ (by decide) (by exact rfl) (by exact Nat.le_of_ble_eq_true rfl) ?_
    refine q_rec (m := 174) rfl ?_
    refine q_p (k := 169) _ (by decide) (by exact rfl) (by exact Nat.le_of_ble_eq_true rfl) ?_
    refine q_nw (m := 175) rfl ?_
    refine q_nq (m := 176) rfl ?_
    refine q_p (k := 174) _ (by decide) (by exact rfl) (by exact Nat.le_of_ble_eq_true rfl) ?_
    refine q_jour (by exact rfl) (by exact rfl) ?_
    refine q_p (k := 169) _ (by decide) (by exact rfl) (by exact Nat.le_of_ble_eq_true rfl) ?_
    refine q_na (m := 202) rfl ?_
    refine q_p (k := 169) _ (by decide) (by exact rfl) (by exact Nat.le_of_ble_eq_true rfl) ?_
    refine q_pz (k := 169) _ (by decide) (by exact rfl) (by exact Nat.le_of_ble_eq_true rfl) (Or.inr rfl) ?_
    refine q_p (k := 169) _ (by decide) (by exact rfl) (by exact Nat.le_of_ble_eq_true rfl) ?_
    refine q_gr (k := 169) _ (by decide) (by exact rfl) (by exact rfl) ?_
    refine q_ck (k := 170) _ (by decide) (by exact rfl) ?_
    refine q_put (by decide) (by exact rfl) (by exact rfl) ?_
    refine q_p0 _ (by decide) (by exact h0) (by exact Nat.le_of_ble_eq_true rfl) ?_
    refine q_secs (fs := [.ref (A + 1), .ref (A + 2), .ref (A + 3), .ref (A + 6), .ref (A + 169), .ref (A + 168), .int 0]) (by exact rfl) rfl (by exact h168) ?_
    refine congrArg (fun Z => some ((), Z)) (blk_zC ?_)
    intro k hk
    by_cases h1 : k < 168
    · by_cases h0 : k = 0
      · subst h0
        rfl
      · have e2 : mC (M0 sr r1 r2 r3) zz zz zz zz zz k = mC zz zz zz zz zz zz k := by
          unfold mC M0
          rw [if_neg (show ¬ k = 171 by omega), if_neg (show ¬ k = 169 by omega), if_neg (show ¬ k = 202 by omega), if_neg (show ¬ k = 207 by omega)]
          rfl
        rw [e2, ← h.2.2 k (by omega) h1]
        have n169 : k ≠ 169 := by omega
        unfold clF scC
        rw [cu_ne _ (show k ≠ 168 by omega), cu_ne _ (show k ≠ 207 by omega), rcC_lo (by omega), rcC_lo (by omega), cu_ne _ (show k ≠ 168 by omega), cu_ne _ (show k ≠ 202 by omega), rcC_lo (by omega), rcC_lo (by omega), cu_ne _ h0, cu_ne _ (show k ≠ 171 by omega), cu_ne _ n169, cu_ne _ n169, cu_ne _ n169, cu_ne _ (show k ≠ 201 by omega), cu_ne _ n169]
        unfold jcC
        rw [if_neg (show ¬ k = 175 by omega), if_neg (show ¬ (176 + 5 * 0 ≤ k ∧ k < 201) by omega), cu_ne _ (show k ≠ 174 by omega), cu_ne _ (show k ≠ 175 by omega), cu_ne _ (show k ≠ 174 by omega), cu_ne _ n169, rcC_lo (by omega), cu_ne _ n169, rcC_lo (by omega), cu_ne _ n169]
    · by_cases h168 : k = 168
      · subst h168
        rfl
      · obtain ⟨j, rfl⟩ : ∃ j, k = 169 + j := ⟨k - 169, by omega⟩
        have hj : j < 43 := by omega
        clear h1 h168 hk
        match j, hj with
        | 0, _ => rfl
        | 1, _ => rfl
        | 2, _ => rfl
        | 3, _ => rfl
        | 4, _ => rfl
        | 5, _ => rfl
        | 6, _ => rfl
        | 7, _ => rfl
        | 8, _ => rfl
        | 9, _ => rfl
        | 10, _ => rfl
        | 11, _ => rfl
        | 12, _ => rfl
        | 13, _ => rfl
        | 14, _ => rfl
        | 15, _ => rfl
        | 16, _ => rfl
        | 17, _ => rfl
        | 18, _ => rfl
        | 19, _ => rfl
        | 20, _ => rfl
        | 21, _ => rfl
        | 22, _ => rfl
        | 23, _ => rfl
        | 24, _ => rfl
        | 25, _ => rfl
        | 26, _ => rfl
        | 27, _ => rfl
        | 28, _ => rfl
        | 29, _ => rfl
        | 30, _ => rfl
        | 31, _ => rfl
        | 32, _ => rfl
        | 33, _ => rfl
        | 34, _ => rfl
        | 35, _ => rfl
        | 36, _ => rfl
        | 37, _ => rfl
        | 38, _ => rfl
        | 39, _ => rfl
        | 40, _ => rfl
        | 41, _ => rfl
        | 42, _ => rfl
        | j + 43, hj => exact absurd hj (by omega)
  unfold J_ZoneNodes_init_81
  rw [s_within, zb1_some]
  unfold dflt
  by_cases hw : (10 : Int32) ≤ x4 ∧ x4 ≤ 200
  · rw [if_pos hw, if_neg n10, if_pos hw]
    exact go x4
  · rw [if_neg hw, if_pos rfl, if_neg hw]
    exact go 60
theorem i_class (sr x2 x3 x4 : Int32) : f_ZoneNodes_init N (blk (fun _ => .inr (8, [.null, .null, .null, .null, .null, .null, .int 0])) 1 A X) A sr x2 x3 x4 = some ((), zC A (X.1, A + 212) (M0 sr (dflt x2 4 50 10) (dflt x3 2 20 4) (dflt x4 10 200 60)) zz zz zz zz zz id id) := by
  simp only [f_ZoneNodes_init, f_Draft_init, f_Wire_init, zb2_zb2, zb2_zb1, zb2_some]
  refine q_na (m := 2) rfl ?_
  refine q_p0 _ (by decide) (by exact rfl) (by exact Nat.le_of_ble_eq_true rfl) ?_
  refine q_na (m := 3) rfl ?_
  refine q_p0 _ (by decide) (by exact rfl) (by exact Nat.le_of_ble_eq_true rfl) ?_
  refine q_nw (m := 4) rfl ?_
  refine q_na (m := 5) rfl ?_
  refine q_p (k := 3) _ (by decide) (by exact rfl) (by exact Nat.le_of_ble_eq_true rfl) ?_
  refine q_na (m := 6) rfl ?_
  refine q_p (k := 3) _ (by decide) (by exact rfl) (by exact Nat.le_of_ble_eq_true rfl) ?_
  refine q_p0 _ (by decide) (by exact rfl) (by exact Nat.le_of_ble_eq_true rfl) ?_
  refine q_nw (m := 7) rfl ?_
  refine q_nq (m := 8) rfl ?_
  refine q_p (k := 6) _ (by decide) (by exact rfl) (by exact Nat.le_of_ble_eq_true rfl) ?_
  refine q_wire (by exact rfl) (by exact rfl) ?_
  refine q_p0 _ (by decide) (by exact rfl) (by exact Nat.le_of_ble_eq_true rfl) ?_
  refine q_nq (m := 169) rfl ?_
  refine q_p0 _ (by decide) (by exact rfl) (by exact Nat.le_of_ble_eq_true rfl) ?_
  have hpre : ∀ c : Nat → zh_E, c 0 = .inr (8, [.ref (A + 1), .ref (A + 2), .ref (A + 3), .ref (A + 6), .null, .ref (A + 168), .int 0]) → c 168 = .inl (4, 2, .inr (.inr (.inr (.inr fun _ => none)))) → (∀ k, 1 ≤ k → k < 168 → c k = zl_c A (shC k) (mC zz zz zz zz zz zz k) (pC id id k)) →
      (zb1 (f_ZoneNodes_within N (blk c 169 A X) x2 4 50) fun v33 => if v33 = 0 then zb1 (f_ZoneNodes_within N (blk c 169 A X) x3 2 20) fun v36 => if v36 = 0 then J_ZoneNodes_init_81 N (blk c 169 A X) A sr x4 10 4 else J_ZoneNodes_init_81 N (blk c 169 A X) A sr x4 10 x3 else zb1 (f_ZoneNodes_within N (blk c 169 A X) x3 2 20) fun v75 => if v75 = 0 then J_ZoneNodes_init_81 N (blk c 169 A X) A sr x4 x2 4 else J_ZoneNodes_init_81 N (blk c 169 A X) A sr x4 x2 x3) = some ((), zC A (X.1, A + 212) (M0 sr (dflt x2 4 50 10) (dflt x3 2 20 4) (dflt x4 10 200 60)) zz zz zz zz zz id id) := by
    intro c c0 c168 ck
    have hJ := fun r1 r2 : Int32 => i_J81 (N := N) (X := X) (sr := sr) (x4 := x4) (r1 := r1) (r2 := r2) (show preC c A from ⟨c0, c168, ck⟩)
    simp only [s_within, zb1_some, hJ]
    unfold dflt
    by_cases h2 : (4 : Int32) ≤ x2 ∧ x2 ≤ 50
    · rw [if_pos h2, if_neg n10, if_pos h2]
      by_cases h3 : (2 : Int32) ≤ x3 ∧ x3 ≤ 20
      · rw [if_pos h3, if_neg n10, if_pos h3]
      · rw [if_neg h3, if_pos rfl, if_neg h3]
    · rw [if_neg h2, if_pos rfl, if_neg h2]
      by_cases h3 : (2 : Int32) ≤ x3 ∧ x3 ≤ 20
      · rw [if_pos h3, if_neg n10, if_pos h3]
      · rw [if_neg h3, if_pos rfl, if_neg h3]
  refine hpre _ (by exact rfl) (by exact rfl) ?_
  intro k k1 k168
  by_cases h8 : 8 ≤ k
  · rw [cu_ne _ (show k ≠ 0 by omega), cu_ne _ (show k ≠ 168 by omega), cu_ne _ (show k ≠ 0 by omega)]
    unfold wcC
    rw [if_neg (show ¬ k = 7 by omega), if_pos (show 8 + 2 * 0 ≤ k ∧ k < 168 by omega)]
    have es : shC k = if (k - 8) % 2 = 0 then .inl (3, [some (k + 1), none, none, none, none, none, none, none, none, none]) else .inr (.inl (0, 4)) := by
      unfold shC
      rw [if_neg (show ¬ k < 8 by omega), if_pos k168]
    have em : mC zz zz zz zz zz zz k = fun _ => 0 := by
      unfold mC
      rw [if_pos (show 8 ≤ k ∧ k < 168 by omega)]
      by_cases hm : (k - 8) % 2 = 0
      · rw [if_pos hm]
        rfl
      · rw [if_neg hm]
        rfl
    rw [es, em]
    by_cases hm : (k - 8) % 2 = 0
    · rw [if_pos hm, if_pos hm]
      rfl
    · rw [if_neg hm, if_neg hm]
      rfl
  · have h8' : k < 8 := by omega
    clear h8 k168
    match k, k1, h8' with
    | 1, _, _ => rfl
    | 2, _, _ => rfl
    | 3, _, _ => rfl
    | 4, _, _ => rfl
    | 5, _, _ => rfl
    | 6, _, _ => rfl
    | 7, _, _ => rfl
    | j + 8, _, h => exact absurd h (by omega)
end ZINI4
