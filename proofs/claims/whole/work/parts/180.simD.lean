/-! a tick at a secondary: the reference -/
section ZSIMD
variable {B : Nat} {Y : zh_T} {R : Nat → Nat → Int32} {N : Nat}
theorem k_tick_step {s f : Nat} (hs : s < 3) (w1 w2 : Int32) : L_ZoneNodesModel_tick_32 N B w1 w2 (f + 1) (zR B Y R) (ni s) = pif (askR R s) (zb2 (f_ZoneNodesModel_ask N (zR B Y R) B (ni s)) fun _ X84 => L_ZoneNodesModel_tick_32 N B w1 w2 f X84 (ni (s + 1))) (L_ZoneNodesModel_tick_32 N B w1 w2 f (zR B Y R) (ni (s + 1))) := by
  rw [L_ZoneNodesModel_tick_32, if_neg (show ¬ (2 : Int32) < ni s from fun q => absurd ((ni_lt (a := 2) (b := s) (by decide) (by omega)).mp q) (by omega)), rr9, zb1_some, ra6 hs, zb1_some, ni_succ]
  have n01 : ¬ (0 : Int32) = 1 := by decide
  unfold askR
  by_cases h1 : R 6 s = 1
  · have h0 : ¬ R 6 s = 0 := by rw [h1]; decide
    rw [if_pos h1, rr10, zb1_some, ra7 hs, zb1_some, rg3, zb1_some, rg1, zb1_some]
    by_cases h2 : R 0 3 - R 0 1 < R 7 s
    · rw [if_pos h2, zb1_some, ra6 hs, zb1_some, if_neg h0, rr4, zb1_some, ra1 hs, zb1_some, ite_self, pif_neg (fun q => q.2.elim (fun z => z.2 h2) (fun z => h0 z.1))]
    · rw [if_neg h2, zb1_some, ra6 hs, zb1_some, if_neg h0, rr4, zb1_some, ra1 hs, zb1_some]
      by_cases hu : R 1 s = 0
      · rw [if_pos hu, pif_neg (fun q => q.1 hu)]
      · rw [if_neg hu, rck, zb1_some, pif_pos ⟨hu, Or.inl ⟨h1, h2⟩⟩]
  · rw [if_neg h1, zb1_some, ra6 hs, zb1_some]
    by_cases h0 : R 6 s = 0
    · rw [if_pos h0, rr10, zb1_some, ra7 hs, zb1_some, rg3, zb1_some]
      by_cases h2 : R 0 3 < R 7 s
      · rw [if_pos h2, rr4, zb1_some, ra1 hs, zb1_some, ite_self, pif_neg (fun q => q.2.elim (fun z => h1 z.1) (fun z => z.2 h2))]
      · rw [if_neg h2, rr4, zb1_some, ra1 hs, zb1_some]
        by_cases hu : R 1 s = 0
        · rw [if_pos hu, pif_neg (fun q => q.1 hu)]
        · rw [if_neg hu, rck, zb1_some, pif_pos ⟨hu, Or.inr ⟨h0, h2⟩⟩]
    · rw [if_neg h0, rr4, zb1_some, ra1 hs, zb1_some, ite_self, pif_neg (fun q => q.2.elim (fun z => h1 z.1) (fun z => h0 z.1))]
end ZSIMD
