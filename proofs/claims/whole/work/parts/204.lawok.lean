/-! the law's answer is 1 -/
theorem cell_ok {xs : Nat → Int32} {L i : Nat} (hL : L ≤ 2564) (hi : i < 5) : ∃ v, f_cell xs L (ni i) = some v := by
  unfold f_cell
  by_cases h : L ≤ i
  · rw [if_pos (show Int32.ofNat L ≤ ni i from (ni_le (a := L) (b := i) (by omega) (by omega)).mpr h)]
    exact ⟨_, rfl⟩
  · rw [if_neg (show ¬ Int32.ofNat L ≤ ni i from fun q => h ((ni_le (a := L) (b := i) (by omega) (by omega)).mp q)), zsc_ok (by omega) (by omega), zb1_some]
    exact ⟨_, rfl⟩
theorem law_ok {xs : Nat → Int32} {L : Nat} (hL : L ≤ 2564) (X : zh_T) : ∃ X', f_law 5000 xs L X = some (1, X') := by
  obtain ⟨c0, e0⟩ := cell_ok (xs := xs) (i := 0) hL (by decide)
  obtain ⟨c1, e1⟩ := cell_ok (xs := xs) (i := 1) hL (by decide)
  obtain ⟨c2, e2⟩ := cell_ok (xs := xs) (i := 2) hL (by decide)
  obtain ⟨c3, e3⟩ := cell_ok (xs := xs) (i := 3) hL (by decide)
  have e0' : f_cell xs L 0 = some c0 := e0
  have e1' : f_cell xs L 1 = some c1 := e1
  have e2' : f_cell xs L 2 = some c2 := e2
  have e3' : f_cell xs L 3 = some c3 := e3
  unfold f_law znw
  rw [zb2_some, e0', zb1_some, e1', zb1_some, e2', zb1_some, e3', zb1_some, blk_new X, i_class, zb2_some]
  rw [zb2_some, zb1_some, zb1_some, zb1_some, zb1_some]
  generalize hM : M0 c0 (dflt c1 4 50 10) (dflt c2 2 20 4) (dflt c3 10 200 60) = M
  rw [blk_new (zC X.2 (X.1, X.2 + 212) M zz zz zz zz zz id id)]
  obtain ⟨R, i1, i2⟩ := i_ref (N := 5000) (B := X.2 + 212) (Y := zC X.2 (X.1, X.2 + 212) M zz zz zz zz zz id id) c0 c1 c2 c3 (by decide)
  have i1' : f_ZoneNodesModel_init 5000 (blk (fun _ => .inr (9, [.int 0, .int 0, .int 0, .int 0, .null, .null, .null, .null, .null, .null, .null, .null, .null, .null, .int 0, .int 0, .null, .int 0, .int 0, .null, .null, .null, .null, .null, .int 0, .null, .null, .null, .null, .null, .null, .null])) 1 (zC X.2 (X.1, X.2 + 212) M zz zz zz zz zz id id).2 (zC X.2 (X.1, X.2 + 212) M zz zz zz zz zz id id)) (zC X.2 (X.1, X.2 + 212) M zz zz zz zz zz id id).2 c0 c1 c2 c3 = some ((), zR (X.2 + 212) (zC X.2 (X.1, X.2 + 212 + 24) M zz zz zz zz zz id id) R) := i1
  rw [i1', zb2_some]
  have hs : stS c0 (mkS V0 0 0 0 0 M zz zz zz zz zz id id R) := by
    unfold stS
    rw [← hM]
    exact Sim_init i2
  obtain ⟨Z, hz⟩ := loop_ok (A := X.2) (B := X.2 + 212) (N := 5000) (W := (X.1, X.2 + 212 + 24)) (xs := xs) (Nat.le_refl _) (by decide) hL 512 0 5000 (mkS V0 0 0 0 0 M zz zz zz zz zz id id R) (by omega) (by omega) (by omega) (Nat.le_refl 0) hs
  unfold two at hz
  rw [st_comm (Nat.le_refl _)] at hz
  have hz' : L_ZoneNodesLaw_law_58 5000 xs L X.2 (zC X.2 (X.1, X.2 + 212) M zz zz zz zz zz id id).2 5000 (zR (X.2 + 212) (zC X.2 (X.1, X.2 + 212 + 24) M zz zz zz zz zz id id) R) 4 = some (.inr ((), Z)) := hz
  rw [hz', zbt_inr]
  exact ⟨Z, rfl⟩
