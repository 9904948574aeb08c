/-! the first state -/
def V0 : Nat → Nat → Bool := fun _ q => decide (q = 17)
theorem okS_zero : okS (fun _ => 0) := fun _ _ => byt_zero
theorem cs_put0 (q : Nat) : cs put0 q = decide (q = 17) := by
  have e := cs_put (nm := 0) (ty := 3) (v := 1) (fun _ => 0) (by decide) (by decide) q
  have e2 : cs put0 q = sPut (cs fun _ => 0) (pl 0 3 1) q := e
  rw [e2]
  unfold sPut
  rw [show cs (fun _ => 0) q = false from bt_zero _]
  rfl
theorem okS_put0 : okS put0 := okS_upd okS_zero (byt_or byt_zero (byt_bit (c := 1) (by decide)))
theorem b01_zero (n : Nat) : b01 (fun _ => 0) n := fun _ _ => Or.inl rfl
theorem wperm_id (n : Nat) : wperm id n := ⟨fun _ h => h, fun _ _ _ _ h => h⟩
theorem Sim_init {sr r1 r2 r3 : Int32} {R : Nat → Nat → Int32} (h : Ini sr r1 r2 r3 R) : Sim sr V0 0 0 0 0 (M0 sr r1 r2 r3) zz zz zz zz zz id id R := by
  obtain ⟨⟨a0, a1, a2, a3, a14, a15, a17, a18, a24⟩, h1, h2, h3, h4, h5, h6, h7, h8, h9, h10, h13, h14, h16, h22, h23⟩ := h
  unfold Sim
  rw [h1, h2, h3, h4, h5, h6, h7, h8, h9, h10, h13, h14, h16, h22, h23, a0, a1, a2, a3, a14, a15, a17, a18, a24]
  refine ⟨⟨rfl, fun k _ => ⟨rfl, rfl, Or.inl rfl⟩⟩, ⟨0, 0, fun _ => (0, 0, 0, 0), fun _ => (0, 0, 0, 0), by omega, by omega, rfl, rfl, rfl, rfl, fun i hi => absurd hi (by omega), fun i hi => absurd hi (by omega)⟩, ⟨b01_upd (b01_zero 768) (Or.inr rfl), b01_zero _, b01_zero _, b01_zero _, b01_zero _, b01_zero _, b01_zero _⟩, ?_, ?_, ?_, ?_, ?_, ?_, Or.inl rfl, Or.inl rfl⟩
  · refine ⟨rfl, Or.inr rfl, rfl, Or.inl rfl, rfl, ?_, rfl, okS_put0, okS_zero, fun q _ => cs_put0 q, fun q _ => ?_⟩
    · show sr = sr + 0
      rw [Int32.add_zero]
    · show decide (upd (fun _ => 0) 17 1 q = 1) = decide (q = 17)
      unfold upd
      by_cases hq : q = 17
      · rw [if_pos hq, decide_eq_true hq]
        rfl
      · rw [if_neg hq, decide_eq_false hq]
        rfl
  · exact ⟨by omega, by omega, by omega, by omega, fun _ => rfl, rfl, rfl, wperm_id 5, fun i hi => absurd hi (by omega)⟩
  · refine ⟨fun k _ => ⟨Nat.le_trans (cnt_single 17 256 0) (by omega), fun a _ => cnt_single 17 8 _⟩, fun k hk => absurd hk (by omega)⟩
  · refine ⟨rfl, rfl, rfl, rfl, rfl, Or.inr rfl, rfl, Or.inl rfl, rfl, ?_, fun _ => ⟨rfl, fun _ => rfl, fun z => absurd z (by decide)⟩, okS_zero, okS_zero, fun z => absurd z (by decide)⟩
    show 0 + r3 = r3
    rw [Int32.zero_add]
  · refine ⟨rfl, rfl, rfl, rfl, rfl, Or.inr rfl, rfl, Or.inl rfl, rfl, ?_, fun _ => ⟨rfl, fun _ => rfl, fun z => absurd z (by decide)⟩, okS_zero, okS_zero, fun z => absurd z (by decide)⟩
    show 0 + r3 = r3
    rw [Int32.zero_add]
  · exact ⟨by omega, rfl, rfl, wperm_id 80, rfl, fun i m r h1 _ => by simp [mlist] at h1, by simp [mlist]⟩
