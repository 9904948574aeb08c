/-! constructors: the reference -/
/-- the reference's rows at first -/
def Ini (sr r1 r2 r3 : Int32) (R : Nat → Nat → Int32) : Prop :=
  (R 0 0 = r1 ∧ R 0 1 = r2 ∧ R 0 2 = r3 ∧ R 0 3 = 0 ∧ R 0 14 = 0 ∧ R 0 15 = 0 ∧ R 0 17 = 0 ∧ R 0 18 = 0 ∧ R 0 24 = 0) ∧ R 1 = upd (upd (upd (fun _ => 0) 0 1) 1 1) 2 1 ∧ R 2 = upd (fun _ => 0) 0 1 ∧ R 3 = upd (fun _ => 0) 0 sr ∧ R 4 = upd (fun _ => 0) 17 1 ∧ R 5 = (fun _ => 0) ∧
  R 6 = upd (upd (fun _ => 0) 1 0) 2 0 ∧ R 7 = upd (upd (fun _ => 0) 1 (0 + 1)) 2 (0 + 1) ∧ R 8 = upd (upd (fun _ => 0) 1 r3) 2 r3 ∧ R 9 = (fun _ => 0) ∧ R 10 = (fun _ => 0) ∧ R 13 = (fun _ => 0) ∧ R 14 = (fun _ => 0) ∧ R 16 = (fun _ => 0) ∧ R 22 = (fun _ => 0) ∧ R 23 = (fun _ => 0)
section ZINI5
variable {c : Nat → zh_E} {n B k m N : Nat} {Y : zh_T}
theorem blk_zR {R : Nat → Nat → Int32} (h : ∀ k, k < 24 → c k = zl_c B (shR k) (R k) (fun _ => 0)) : blk c 24 B Y = zR B (Y.1, B + 24) R := by
  refine Prod.ext ?_ rfl
  funext q
  show (if B ≤ q ∧ q < B + 24 then some (c (q - B)) else Y.1 q) = if B ≤ q ∧ q < B + 24 then some (zl_c B (shR (q - B)) (R (q - B)) (fun _ => 0)) else Y.1 q
  by_cases hq : B ≤ q ∧ q < B + 24
  · rw [if_pos hq, if_pos hq, h (q - B) (by omega)]
  · rw [if_neg hq, if_neg hq]
theorem k_J222 {sr x4 r1 u1 : Int32} (hN : 300 < N) : ∃ R', J_ZoneNodesModel_init_222 N (zR B Y (zu zz 0 (upd (zz 0) 0 r1))) B sr x4 B u1 = some ((), zR B Y R') ∧ Ini sr r1 u1 (dflt x4 10 200 60) R' := by
  obtain ⟨f, hf⟩ : ∃ f, N = f + 1 + 1 + 1 + 1 := ⟨N - 4, by omega⟩
  have go : ∀ r3 : Int32, ∃ R', (zb1 (zp (zR B Y (zu (zu zz 0 (upd (zz 0) 0 r1)) 0 (upd (zu zz 0 (upd (zz 0) 0 r1) 0) 1 u1))) B 9 2 (.int r3)) fun X123 => zb1 (zgr X123 B 9 6) fun a126 => zb1 (zsi X123 a126 0 sr) fun X127 => zb1 (zgr X127 B 9 5) fun a130 => zb1 (zsz X127 a130 0 1) fun X131 => zb1 (zgr X131 B 9 7) fun a134 => zb1 (f_ZoneNodesModel_place N X131 0 3 1) fun v136 => zb1 (zsz X131 a134 v136 1) fun X137 => zb2 (L_ZoneNodesModel_init_280 N B N X137 0) fun _ X146 => zb1 (zck X146 B 9) fun _ => zb2 (f_ZoneNodesModel_rest N X146 B 1 1) fun _ X150 => zb1 (zck X150 B 9) fun _ => zb2 (f_ZoneNodesModel_rest N X150 B 2 1) fun _ X154 => zb1 (zgr X154 B 9 11) fun a156 => zb1 (zgi X154 B 9 2) fun v158 => zb1 (zsi X154 a156 1 v158) fun X159 => zb1 (zgr X159 B 9 11) fun a162 => zb1 (zgi X159 B 9 2) fun v164 => zb1 (zsi X159 a162 2 v164) fun X165 => some ((), X165)) = some ((), zR B Y R') ∧ Ini sr r1 u1 r3 R' := by
    intro r3
    have z0 : (0 : Int32) = ni 0 := rfl
    have z1 : (1 : Int32) = ni 1 := rfl
    have z2 : (2 : Int32) = ni 2 := rfl
    have w3 : ∀ (R : Nat → Nat → Int32) (v : Int32), zsi (zR B Y R) (B + 3) 0 v = some (zR B Y (zu R 3 (upd (R 3) 0 v))) := fun R v => rs3 (i := 0) (by decide)
    have w2 : ∀ (R : Nat → Nat → Int32), zsz (zR B Y R) (B + 2) 0 1 = some (zR B Y (zu R 2 (upd (R 2) 0 1))) := fun R => rs2 (i := 0) (by decide) (Or.inr rfl)
    have w4 : ∀ (R : Nat → Nat → Int32), zsz (zR B Y R) (B + 4) (ni 17) 1 = some (zR B Y (zu R 4 (upd (R 4) 17 1))) := fun R => rs4 (i := 17) (by decide) (Or.inr rfl)
    have wp : ∀ Z : zh_T, f_ZoneNodesModel_place N Z 0 3 1 = some (ni 17) := fun Z => k_place (a := 0) (t := 3) (v := 1) (by decide)
    have wl : ∀ R : Nat → Nat → Int32, L_ZoneNodesModel_init_280 N B N (zR B Y R) 0 = some ((), zR B Y (zu (zu (zu R 1 (upd (R 1) 0 1)) 1 (upd (upd (R 1) 0 1) 1 1)) 1 (upd (upd (upd (R 1) 0 1) 1 1) 2 1))) := by
      intro R
      have a0 : ∀ R : Nat → Nat → Int32, zsz (zR B Y R) (B + 1) 0 1 = some (zR B Y (zu R 1 (upd (R 1) 0 1))) := fun R => rs1 (i := 0) (by decide) (Or.inr rfl)
      have a1 : ∀ R : Nat → Nat → Int32, zsz (zR B Y R) (B + 1) 1 1 = some (zR B Y (zu R 1 (upd (R 1) 1 1))) := fun R => rs1 (i := 1) (by decide) (Or.inr rfl)
      have a2 : ∀ R : Nat → Nat → Int32, zsz (zR B Y R) (B + 1) 2 1 = some (zR B Y (zu R 1 (upd (R 1) 2 1))) := fun R => rs1 (i := 2) (by decide) (Or.inr rfl)
      rw [show L_ZoneNodesModel_init_280 N B N = L_ZoneNodesModel_init_280 N B (f + 1 + 1 + 1 + 1) from by rw [← hf]]
      rw [L_ZoneNodesModel_init_280, if_neg (by decide), rr4, zb1_some, a0, zb1_some, show (0 : Int32) + 1 = 1 by decide]
      rw [L_ZoneNodesModel_init_280, if_neg (by decide), rr4, zb1_some, a1, zb1_some, show (1 : Int32) + 1 = 2 by decide]
      rw [L_ZoneNodesModel_init_280, if_neg (by decide), rr4, zb1_some, a2, zb1_some, show (2 : Int32) + 1 = 3 by decide]
      rw [L_ZoneNodesModel_init_280, if_pos (by decide)]
      rfl
    have w61 : ∀ R : Nat → Nat → Int32, f_ZoneNodesModel_rest N (zR B Y R) B 1 1 = some ((), zR B Y (zu (zu R 6 (upd (R 6) 1 0)) 7 (upd (R 7) 1 (R 0 3 + 1)))) := fun R => k_rest (s := 1) (by decide) 1
    have w62 : ∀ R : Nat → Nat → Int32, f_ZoneNodesModel_rest N (zR B Y R) B 2 1 = some ((), zR B Y (zu (zu R 6 (upd (R 6) 2 0)) 7 (upd (R 7) 2 (R 0 3 + 1)))) := fun R => k_rest (s := 2) (by decide) 1
    have w81 : ∀ (R : Nat → Nat → Int32) (v : Int32), zsi (zR B Y R) (B + 8) 1 v = some (zR B Y (zu R 8 (upd (R 8) 1 v))) := fun R v => rs8 (i := 1) (by decide)
    have w82 : ∀ (R : Nat → Nat → Int32) (v : Int32), zsi (zR B Y R) (B + 8) 2 v = some (zR B Y (zu R 8 (upd (R 8) 2 v))) := fun R v => rs8 (i := 2) (by decide)
    rw [rq2, zb1_some, rr6, zb1_some, w3, zb1_some, rr5, zb1_some, w2, zb1_some, rr7, zb1_some, wp, zb1_some, w4, zb1_some, wl, zb2_some, rck, zb1_some, w61, zb2_some, rck, zb1_some, w62, zb2_some, rr11, zb1_some, rg2, zb1_some, w81, zb1_some, rr11, zb1_some, rg2, zb1_some, w82, zb1_some]
    exact ⟨_, rfl, ⟨rfl, rfl, rfl, rfl, rfl, rfl, rfl, rfl, rfl⟩, rfl, rfl, rfl, rfl, rfl, rfl, rfl, rfl, rfl, rfl, rfl, rfl, rfl, rfl, rfl⟩
  unfold J_ZoneNodesModel_init_222
  rw [rq1, zb1_some]
  unfold dflt
  by_cases h1 : x4 < 10
  · rw [if_pos h1, if_neg (fun q => absurd h1 (Int32.not_lt.mpr q.1))]
    exact go 60
  · rw [if_neg h1]
    by_cases h2 : 200 < x4
    · rw [if_pos h2, if_neg (fun q => absurd h2 (Int32.not_lt.mpr q.2))]
      exact go 60
    · rw [if_neg h2, if_pos ⟨Int32.not_lt.mp h1, Int32.not_lt.mp h2⟩]
      exact go x4
theorem i_ref (sr x2 x3 x4 : Int32) (hN : 300 < N) : ∃ R', f_ZoneNodesModel_init N (blk (fun _ => .inr (9, [.int 0, .int 0, .int 0, .int 0, .null, .null, .null, .null, .null, .null, .null, .null, .null, .null, .int 0, .int 0, .null, .int 0, .int 0, .null, .null, .null, .null, .null, .int 0, .null, .null, .null, .null, .null, .null, .null])) 1 B Y) B sr x2 x3 x4 = some ((), zR B (Y.1, B + 24) R') ∧ Ini sr (dflt x2 4 50 10) (dflt x3 2 20 4) (dflt x4 10 200 60) R' := by
  obtain ⟨R', h1, h2⟩ := k_J222 (N := N) (B := B) (Y := (Y.1, B + 24)) (sr := sr) (x4 := x4) (r1 := dflt x2 4 50 10) (u1 := dflt x3 2 20 4) hN
  refine ⟨R', ?_, h2⟩
  unfold f_ZoneNodesModel_init
  refine q_na (m := 2) rfl ?_
  refine q_p0 [.int 0, .int 0, .int 0, .int 0, .null, .null, .null, .null, .null, .null, .null, .null, .null, .null, .int 0, .int 0, .null, .int 0, .int 0, .null, .null, .null, .null, .null, .int 0, .null, .null, .null, .null, .null, .null, .null] (by decide) (by exact rfl) (by simp) ?_
  refine q_na (m := 3) rfl ?_
  refine q_p0 [.int 0, .int 0, .int 0, .int 0, .ref (B + 1), .null, .null, .null, .null, .null, .null, .null, .null, .null, .int 0, .int 0, .null, .int 0, .int 0, .null, .null, .null, .null, .null, .int 0, .null, .null, .null, .null, .null, .null, .null] (by decide) (by exact rfl) (by simp) ?_
  refine q_na (m := 4) rfl ?_
  refine q_p0 [.int 0, .int 0, .int 0, .int 0, .ref (B + 1), .ref (B + 2), .null, .null, .null, .null, .null, .null, .null, .null, .int 0, .int 0, .null, .int 0, .int 0, .null, .null, .null, .null, .null, .int 0, .null, .null, .null, .null, .null, .null, .null] (by decide) (by exact rfl) (by simp) ?_
  refine q_na (m := 5) rfl ?_
  refine q_p0 [.int 0, .int 0, .int 0, .int 0, .ref (B + 1), .ref (B + 2), .ref (B + 3), .null, .null, .null, .null, .null, .null, .null, .int 0, .int 0, .null, .int 0, .int 0, .null, .null, .null, .null, .null, .int 0, .null, .null, .null, .null, .null, .null, .null] (by decide) (by exact rfl) (by simp) ?_
  refine q_na (m := 6) rfl ?_
  refine q_p0 [.int 0, .int 0, .int 0, .int 0, .ref (B + 1), .ref (B + 2), .ref (B + 3), .ref (B + 4), .null, .null, .null, .null, .null, .null, .int 0, .int 0, .null, .int 0, .int 0, .null, .null, .null, .null, .null, .int 0, .null, .null, .null, .null, .null, .null, .null] (by decide) (by exact rfl) (by simp) ?_
  refine q_na (m := 7) rfl ?_
  refine q_p0 [.int 0, .int 0, .int 0, .int 0, .ref (B + 1), .ref (B + 2), .ref (B + 3), .ref (B + 4), .ref (B + 5), .null, .null, .null, .null, .null, .int 0, .int 0, .null, .int 0, .int 0, .null, .null, .null, .null, .null, .int 0, .null, .null, .null, .null, .null, .null, .null] (by decide) (by exact rfl) (by simp) ?_
  refine q_na (m := 8) rfl ?_
  refine q_p0 [.int 0, .int 0, .int 0, .int 0, .ref (B + 1), .ref (B + 2), .ref (B + 3), .ref (B + 4), .ref (B + 5), .ref (B + 6), .null, .null, .null, .null, .int 0, .int 0, .null, .int 0, .int 0, .null, .null, .null, .null, .null, .int 0, .null, .null, .null, .null, .null, .null, .null] (by decide) (by exact rfl) (by simp) ?_
  refine q_na (m := 9) rfl ?_
  refine q_p0 [.int 0, .int 0, .int 0, .int 0, .ref (B + 1), .ref (B + 2), .ref (B + 3), .ref (B + 4), .ref (B + 5), .ref (B + 6), .ref (B + 7), .null, .null, .null, .int 0, .int 0, .null, .int 0, .int 0, .null, .null, .null, .null, .null, .int 0, .null, .null, .null, .null, .null, .null, .null] (by decide) (by exact rfl) (by simp) ?_
  refine q_na (m := 10) rfl ?_
  refine q_p0 [.int 0, .int 0, .int 0, .int 0, .ref (B + 1), .ref (B + 2), .ref (B + 3), .ref (B + 4), .ref (B + 5), .ref (B + 6), .ref (B + 7), .ref (B + 8), .null, .null, .int 0, .int 0, .null, .int 0, .int 0, .null, .null, .null, .null, .null, .int 0, .null, .null, .null, .null, .null, .null, .null] (by decide) (by exact rfl) (by simp) ?_
  refine q_na (m := 11) rfl ?_
  refine q_p0 [.int 0, .int 0, .int 0, .int 0, .ref (B + 1), .ref (B + 2), .ref (B + 3), .ref (B + 4), .ref (B + 5), .ref (B + 6), .ref (B + 7), .ref (B + 8), .ref (B + 9), .null, .int 0, .int 0, .null, .int 0, .int 0, .null, .null, .null, .null, .null, .int 0, .null, .null, .null, .null, .null, .null, .null] (by decide) (by exact rfl) (by simp) ?_
  refine q_na (m := 12) rfl ?_
  refine q_p0 [.int 0, .int 0, .int 0, .int 0, .ref (B + 1), .ref (B + 2), .ref (B + 3), .ref (B + 4), .ref (B + 5), .ref (B + 6), .ref (B + 7), .ref (B + 8), .ref (B + 9), .ref (B + 10), .int 0, .int 0, .null, .int 0, .int 0, .null, .null, .null, .null, .null, .int 0, .null, .null, .null, .null, .null, .null, .null] (by decide) (by exact rfl) (by simp) ?_
  refine q_na (m := 13) rfl ?_
  refine q_p0 [.int 0, .int 0, .int 0, .int 0, .ref (B + 1), .ref (B + 2), .ref (B + 3), .ref (B + 4), .ref (B + 5), .ref (B + 6), .ref (B + 7), .ref (B + 8), .ref (B + 9), .ref (B + 10), .int 0, .int 0, .ref (B + 11), .int 0, .int 0, .null, .null, .null, .null, .null, .int 0, .null, .null, .null, .null, .null, .null, .null] (by decide) (by exact rfl) (by simp) ?_
  refine q_na (m := 14) rfl ?_
  refine q_p0 [.int 0, .int 0, .int 0, .int 0, .ref (B + 1), .ref (B + 2), .ref (B + 3), .ref (B + 4), .ref (B + 5), .ref (B + 6), .ref (B + 7), .ref (B + 8), .ref (B + 9), .ref (B + 10), .int 0, .int 0, .ref (B + 11), .int 0, .int 0, .ref (B + 12), .null, .null, .null, .null, .int 0, .null, .null, .null, .null, .null, .null, .null] (by decide) (by exact rfl) (by simp) ?_
  refine q_na (m := 15) rfl ?_
  refine q_p0 [.int 0, .int 0, .int 0, .int 0, .ref (B + 1), .ref (B + 2), .ref (B + 3), .ref (B + 4), .ref (B + 5), .ref (B + 6), .ref (B + 7), .ref (B + 8), .ref (B + 9), .ref (B + 10), .int 0, .int 0, .ref (B + 11), .int 0, .int 0, .ref (B + 12), .ref (B + 13), .null, .null, .null, .int 0, .null, .null, .null, .null, .null, .null, .null] (by decide) (by exact rfl) (by simp) ?_
  refine q_na (m := 16) rfl ?_
  refine q_p0 [.int 0, .int 0, .int 0, .int 0, .ref (B + 1), .ref (B + 2), .ref (B + 3), .ref (B + 4), .ref (B + 5), .ref (B + 6), .ref (B + 7), .ref (B + 8), .ref (B + 9), .ref (B + 10), .int 0, .int 0, .ref (B + 11), .int 0, .int 0, .ref (B + 12), .ref (B + 13), .ref (B + 14), .null, .null, .int 0, .null, .null, .null, .null, .null, .null, .null] (by decide) (by exact rfl) (by simp) ?_
  refine q_na (m := 17) rfl ?_
  refine q_p0 [.int 0, .int 0, .int 0, .int 0, .ref (B + 1), .ref (B + 2), .ref (B + 3), .ref (B + 4), .ref (B + 5), .ref (B + 6), .ref (B + 7), .ref (B + 8), .ref (B + 9), .ref (B + 10), .int 0, .int 0, .ref (B + 11), .int 0, .int 0, .ref (B + 12), .ref (B + 13), .ref (B + 14), .ref (B + 15), .null, .int 0, .null, .null, .null, .null, .null, .null, .null] (by decide) (by exact rfl) (by simp) ?_
  refine q_na (m := 18) rfl ?_
  refine q_p0 [.int 0, .int 0, .int 0, .int 0, .ref (B + 1), .ref (B + 2), .ref (B + 3), .ref (B + 4), .ref (B + 5), .ref (B + 6), .ref (B + 7), .ref (B + 8), .ref (B + 9), .ref (B + 10), .int 0, .int 0, .ref (B + 11), .int 0, .int 0, .ref (B + 12), .ref (B + 13), .ref (B + 14), .ref (B + 15), .ref (B + 16), .int 0, .null, .null, .null, .null, .null, .null, .null] (by decide) (by exact rfl) (by simp) ?_
  refine q_na (m := 19) rfl ?_
  refine q_p0 [.int 0, .int 0, .int 0, .int 0, .ref (B + 1), .ref (B + 2), .ref (B + 3), .ref (B + 4), .ref (B + 5), .ref (B + 6), .ref (B + 7), .ref (B + 8), .ref (B + 9), .ref (B + 10), .int 0, .int 0, .ref (B + 11), .int 0, .int 0, .ref (B + 12), .ref (B + 13), .ref (B + 14), .ref (B + 15), .ref (B + 16), .int 0, .ref (B + 17), .null, .null, .null, .null, .null, .null] (by decide) (by exact rfl) (by simp) ?_
  refine q_na (m := 20) rfl ?_
  refine q_p0 [.int 0, .int 0, .int 0, .int 0, .ref (B + 1), .ref (B + 2), .ref (B + 3), .ref (B + 4), .ref (B + 5), .ref (B + 6), .ref (B + 7), .ref (B + 8), .ref (B + 9), .ref (B + 10), .int 0, .int 0, .ref (B + 11), .int 0, .int 0, .ref (B + 12), .ref (B + 13), .ref (B + 14), .ref (B + 15), .ref (B + 16), .int 0, .ref (B + 17), .ref (B + 18), .null, .null, .null, .null, .null] (by decide) (by exact rfl) (by simp) ?_
  refine q_na (m := 21) rfl ?_
  refine q_p0 [.int 0, .int 0, .int 0, .int 0, .ref (B + 1), .ref (B + 2), .ref (B + 3), .ref (B + 4), .ref (B + 5), .ref (B + 6), .ref (B + 7), .ref (B + 8), .ref (B + 9), .ref (B + 10), .int 0, .int 0, .ref (B + 11), .int 0, .int 0, .ref (B + 12), .ref (B + 13), .ref (B + 14), .ref (B + 15), .ref (B + 16), .int 0, .ref (B + 17), .ref (B + 18), .ref (B + 19), .null, .null, .null, .null] (by decide) (by exact rfl) (by simp) ?_
  refine q_na (m := 22) rfl ?_
  refine q_p0 [.int 0, .int 0, .int 0, .int 0, .ref (B + 1), .ref (B + 2), .ref (B + 3), .ref (B + 4), .ref (B + 5), .ref (B + 6), .ref (B + 7), .ref (B + 8), .ref (B + 9), .ref (B + 10), .int 0, .int 0, .ref (B + 11), .int 0, .int 0, .ref (B + 12), .ref (B + 13), .ref (B + 14), .ref (B + 15), .ref (B + 16), .int 0, .ref (B + 17), .ref (B + 18), .ref (B + 19), .ref (B + 20), .null, .null, .null] (by decide) (by exact rfl) (by simp) ?_
  refine q_na (m := 23) rfl ?_
  refine q_p0 [.int 0, .int 0, .int 0, .int 0, .ref (B + 1), .ref (B + 2), .ref (B + 3), .ref (B + 4), .ref (B + 5), .ref (B + 6), .ref (B + 7), .ref (B + 8), .ref (B + 9), .ref (B + 10), .int 0, .int 0, .ref (B + 11), .int 0, .int 0, .ref (B + 12), .ref (B + 13), .ref (B + 14), .ref (B + 15), .ref (B + 16), .int 0, .ref (B + 17), .ref (B + 18), .ref (B + 19), .ref (B + 20), .ref (B + 21), .null, .null] (by decide) (by exact rfl) (by simp) ?_
  refine q_na (m := 24) rfl ?_
  refine q_p0 [.int 0, .int 0, .int 0, .int 0, .ref (B + 1), .ref (B + 2), .ref (B + 3), .ref (B + 4), .ref (B + 5), .ref (B + 6), .ref (B + 7), .ref (B + 8), .ref (B + 9), .ref (B + 10), .int 0, .int 0, .ref (B + 11), .int 0, .int 0, .ref (B + 12), .ref (B + 13), .ref (B + 14), .ref (B + 15), .ref (B + 16), .int 0, .ref (B + 17), .ref (B + 18), .ref (B + 19), .ref (B + 20), .ref (B + 21), .ref (B + 22), .null] (by decide) (by exact rfl) (by simp) ?_
  rw [blk_zR (R := zz) (by
    intro k hk
    match k, hk with
    | 0, _ => rfl
    | 1, _ => rfl
    | 2, _ => rfl
    | 3, _ => rfl
    | 4, _ => rfl
    | 5, _ => rfl
    | 6, _ => rfl
    | 7, _ => rfl
    | 8, _ => rfl
    | 9, _ => rfl
    | 10, _ => rfl
    | 11, _ => rfl
    | 12, _ => rfl
    | 13, _ => rfl
    | 14, _ => rfl
    | 15, _ => rfl
    | 16, _ => rfl
    | 17, _ => rfl
    | 18, _ => rfl
    | 19, _ => rfl
    | 20, _ => rfl
    | 21, _ => rfl
    | 22, _ => rfl
    | 23, _ => rfl
    | k + 24, hk => exact absurd hk (by omega))]
  have three : ∀ r1 : Int32, r1 = dflt x2 4 50 10 → (zb1 (zp (zR B (Y.1, B + 24) zz) B 9 0 (.int r1)) fun X117 => if x3 < 2 then J_ZoneNodesModel_init_222 N X117 B sr x4 B 4 else if 20 < x3 then J_ZoneNodesModel_init_222 N X117 B sr x4 B 4 else J_ZoneNodesModel_init_222 N X117 B sr x4 B x3) = some ((), zR B (Y.1, B + 24) R') := by
    intro r1 hr
    subst hr
    rw [rq0, zb1_some]
    unfold dflt at h1 ⊢
    by_cases g1 : x3 < 2
    · rw [if_neg (show ¬ ((2 : Int32) ≤ x3 ∧ x3 ≤ 20) from fun q => absurd g1 (Int32.not_lt.mpr q.1))] at h1
      rw [if_pos g1, h1]
    · rw [if_neg g1]
      by_cases g2 : 20 < x3
      · rw [if_neg (show ¬ ((2 : Int32) ≤ x3 ∧ x3 ≤ 20) from fun q => absurd g2 (Int32.not_lt.mpr q.2))] at h1
        rw [if_pos g2, h1]
      · rw [if_pos (show (2 : Int32) ≤ x3 ∧ x3 ≤ 20 from ⟨Int32.not_lt.mp g1, Int32.not_lt.mp g2⟩)] at h1
        rw [if_neg g2, h1]
  by_cases g1 : x2 < 4
  · rw [if_pos g1]
    exact three 10 (by unfold dflt; rw [if_neg (fun q => absurd g1 (Int32.not_lt.mpr q.1))])
  · rw [if_neg g1]
    by_cases g2 : 50 < x2
    · rw [if_pos g2]
      exact three 10 (by unfold dflt; rw [if_neg (fun q => absurd g2 (Int32.not_lt.mpr q.2))])
    · rw [if_neg g2]
      exact three x2 (by unfold dflt; rw [if_pos ⟨Int32.not_lt.mp g1, Int32.not_lt.mp g2⟩])
end ZINI5
