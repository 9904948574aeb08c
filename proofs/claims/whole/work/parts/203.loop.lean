/-! the law's loop -/
abbrev St : Type := (Nat → Nat → Bool) × Nat × Nat × Nat × Nat × (Nat → Nat → Int32) × (Nat → Nat → Int32) × (Nat → Nat → Int32) × (Nat → Nat → Int32) × (Nat → Nat → Int32) × (Nat → Nat → Int32) × (Nat → Nat) × (Nat → Nat) × (Nat → Nat → Int32)
def za_V (z : St) : Nat → Nat → Bool := z.1
def za_n (z : St) : Nat := z.2.1
def za_c (z : St) : Nat := z.2.2.1
def za_jc (z : St) : Nat := z.2.2.2.1
def za_pd (z : St) : Nat := z.2.2.2.2.1
def za_M (z : St) : Nat → Nat → Int32 := z.2.2.2.2.2.1
def za_F (z : St) : Nat → Nat → Int32 := z.2.2.2.2.2.2.1
def za_I (z : St) : Nat → Nat → Int32 := z.2.2.2.2.2.2.2.1
def za_J (z : St) : Nat → Nat → Int32 := z.2.2.2.2.2.2.2.2.1
def za_G (z : St) : Nat → Nat → Int32 := z.2.2.2.2.2.2.2.2.2.1
def za_K (z : St) : Nat → Nat → Int32 := z.2.2.2.2.2.2.2.2.2.2.1
def za_w (z : St) : Nat → Nat := z.2.2.2.2.2.2.2.2.2.2.2.1
def za_e (z : St) : Nat → Nat := z.2.2.2.2.2.2.2.2.2.2.2.2.1
def za_R (z : St) : Nat → Nat → Int32 := z.2.2.2.2.2.2.2.2.2.2.2.2.2
def mkS (V : Nat → Nat → Bool) (n : Nat) (c : Nat) (jc : Nat) (pd : Nat) (M : Nat → Nat → Int32) (F : Nat → Nat → Int32) (I : Nat → Nat → Int32) (J : Nat → Nat → Int32) (G : Nat → Nat → Int32) (K : Nat → Nat → Int32) (w : Nat → Nat) (e : Nat → Nat) (R : Nat → Nat → Int32) : St := (V, n, c, jc, pd, M, F, I, J, G, K, w, e, R)
def stC (A : Nat) (X : zh_T) (z : St) : zh_T := zC A X (za_M z) (za_F z) (za_I z) (za_J z) (za_G z) (za_K z) (za_w z) (za_e z)
def stR (B : Nat) (Y : zh_T) (z : St) : zh_T := zR B Y (za_R z)
def stS (s0 : Int32) (z : St) : Prop := Sim s0 (za_V z) (za_n z) (za_c z) (za_jc z) (za_pd z) (za_M z) (za_F z) (za_I z) (za_J z) (za_G z) (za_K z) (za_w z) (za_e z) (za_R z)
def two (A B : Nat) (W : zh_T) (z : St) : zh_T := stC A (stR B W z) z
theorem st_comm {A B : Nat} (h : A + 212 ≤ B) (W : zh_T) (z y : St) : stC A (stR B W y) z = stR B (stC A W z) y := by
  unfold stC stR zC zR
  exact zl_comm h
theorem st_move {A : Nat} {X W : zh_T} {z y : St} (h : stC A X z = stC A X y) : stC A W z = stC A W y := by
  refine Prod.ext ?_ (show W.2 = W.2 from rfl)
  funext q
  have e := congrFun (congrArg Prod.fst h) q
  unfold stC zC zl at e ⊢
  by_cases hq : A ≤ q ∧ q < A + 212
  · simp only [if_pos hq] at e ⊢
    exact e
  · simp only [if_neg hq]
/-- a call that changes the heap, on both sides of one heap -/
theorem turn {A B : Nat} {s0 : Int32} {fc fr : zh_T → Option (Int32 × zh_T)} (hAB : A + 212 ≤ B) (z : St) (hop : ∀ X Y : zh_T, ∃ (r : Int32) (y : St), za_n y ≤ za_n z + 1 ∧ fc (stC A X z) = some (r, stC A X y) ∧ fr (stR B Y z) = some (r, stR B Y y) ∧ stS s0 y) (W : zh_T) :
    ∃ (r : Int32) (Z1 : zh_T) (y : St), za_n y ≤ za_n z + 1 ∧ fc (two A B W z) = some (r, Z1) ∧ zck Z1 B 9 = some () ∧ fr Z1 = some (r, two A B W y) ∧ stS s0 y := by
  obtain ⟨r0, y0, -, a1, -, -⟩ := hop (stR B W z) W
  obtain ⟨r1, y1, b0, b1, b2, b3⟩ := hop (stR B W z) (stC A W y0)
  rw [b1] at a1
  have er : r1 = r0 := congrArg Prod.fst (Option.some.inj a1)
  have ey : stC A (stR B W z) y1 = stC A (stR B W z) y0 := congrArg Prod.snd (Option.some.inj a1)
  refine ⟨r1, stC A (stR B W z) y1, y1, b0, b1, ?_, ?_, b3⟩
  · rw [st_comm hAB]
    exact rck
  · have e0 : stC A W y1 = stC A W y0 := st_move ey
    rw [ey, st_comm hAB, b2, ← e0]
    unfold two
    rw [st_comm hAB]
theorem zsc_ok {xs : Nat → Int32} {L i : Nat} (h : i < L) (hL : L ≤ 65536) : zsc xs L (ni i) = some (xs i) := by
  unfold zsc
  rw [if_neg (ni_ok h hL), ni_to (n := i) (by omega)]
theorem law_end {L i : Nat} (hL : L ≤ 60000) (hi : i ≤ 60000) : (Int32.ofNat L - 5 < ni i) ↔ L < i + 5 := by
  by_cases h5 : 5 ≤ L
  · have e : Int32.ofNat L - 5 = ni (L - 5) := ni_sub (a := L) (b := 5) h5
    rw [e, ni_lt (a := L - 5) (b := i) (by omega) (by omega)]
    omega
  · have hn : (0 : Int32) ≤ ni i := Int32.not_lt.mp (ni_nonneg (a := i) (by omega))
    have hl : Int32.ofNat L - 5 < 0 := by
      have hL5 : L < 5 := by omega
      match L, hL5 with
      | 0, _ => decide
      | 1, _ => decide
      | 2, _ => decide
      | 3, _ => decide
      | 4, _ => decide
      | k + 5, h => exact absurd h (by omega)
    exact ⟨fun _ => by omega, fun _ => Int32.lt_of_lt_of_le hl hn⟩
section ZLOOP
variable {A B N L : Nat} {W : zh_T} {xs : Nat → Int32} {s0 : Int32}
theorem ckC {z : St} : zck (two A B W z) A 8 = some () := ck0
theorem ckR {z : St} (hAB : A + 212 ≤ B) : zck (two A B W z) B 9 = some () := by
  unfold two
  rw [st_comm hAB]
  exact rck
theorem t_key (hAB : A + 212 ≤ B) {z : St} (h : stS s0 z) (hN : 1100 < N) (hn : za_n z ≤ 60000) (a b : Int32) : ∃ (r : Int32) (Z1 : zh_T) (y : St), za_n y ≤ za_n z + 1 ∧ f_ZoneNodes_key N (two A B W z) A a b = some (r, Z1) ∧ zck Z1 B 9 = some () ∧ f_ZoneNodesModel_key N Z1 B a b = some (r, two A B W y) ∧ stS s0 y := by
  have hN3 : 300 < N := by omega
  refine turn (fc := fun Z => f_ZoneNodes_key N Z A a b) (fr := fun Z => f_ZoneNodesModel_key N Z B a b) hAB z (fun X Y => ?_) W
  obtain ⟨r, M', R', q1, q2, q3⟩ := o_key (N := N) (A := A) (X := X) (B := B) (Y := Y) h a b 
  exact ⟨r, mkS (za_V z) (za_n z) (za_c z) (za_jc z) (za_pd z) M' (za_F z) (za_I z) (za_J z) (za_G z) (za_K z) (za_w z) (za_e z) R', Nat.le_succ _, q1, q2, q3⟩
theorem t_need (hAB : A + 212 ≤ B) {z : St} (h : stS s0 z) (hN : 1100 < N) (hn : za_n z ≤ 60000) (a b d f : Int32) : ∃ (r : Int32) (Z1 : zh_T) (y : St), za_n y ≤ za_n z + 1 ∧ f_ZoneNodes_need N (two A B W z) A a b d f = some (r, Z1) ∧ zck Z1 B 9 = some () ∧ f_ZoneNodesModel_need N Z1 B a b d f = some (r, two A B W y) ∧ stS s0 y := by
  have hN3 : 300 < N := by omega
  refine turn (fc := fun Z => f_ZoneNodes_need N Z A a b d f) (fr := fun Z => f_ZoneNodesModel_need N Z B a b d f) hAB z (fun X Y => ?_) W
  obtain ⟨r, M', R', q1, q2, q3⟩ := o_need (N := N) (A := A) (X := X) (B := B) (Y := Y) h a b d f 
  exact ⟨r, mkS (za_V z) (za_n z) (za_c z) (za_jc z) (za_pd z) M' (za_F z) (za_I z) (za_J z) (za_G z) (za_K z) (za_w z) (za_e z) R', Nat.le_succ _, q1, q2, q3⟩
theorem t_change (hAB : A + 212 ≤ B) {z : St} (h : stS s0 z) (hN : 1100 < N) (hn : za_n z ≤ 60000) (a b d f : Int32) : ∃ (r : Int32) (Z1 : zh_T) (y : St), za_n y ≤ za_n z + 1 ∧ f_ZoneNodes_change N (two A B W z) A a b d f = some (r, Z1) ∧ zck Z1 B 9 = some () ∧ f_ZoneNodesModel_change N Z1 B a b d f = some (r, two A B W y) ∧ stS s0 y := by
  have hN3 : 300 < N := by omega
  refine turn (fc := fun Z => f_ZoneNodes_change N Z A a b d f) (fr := fun Z => f_ZoneNodesModel_change N Z B a b d f) hAB z (fun X Y => ?_) W
  obtain ⟨r, M', R', q1, q2, q3⟩ := o_change (N := N) (A := A) (X := X) (B := B) (Y := Y) h a b d f 
  exact ⟨r, mkS (za_V z) (za_n z) (za_c z) (za_jc z) (za_pd z) M' (za_F z) (za_I z) (za_J z) (za_G z) (za_K z) (za_w z) (za_e z) R', Nat.le_succ _, q1, q2, q3⟩
theorem t_seal (hAB : A + 212 ≤ B) {z : St} (h : stS s0 z) (hN : 1100 < N) (a b : Int32) : ∃ r : Int32, f_ZoneNodes_seal N (two A B W z) A a b = some r ∧ f_ZoneNodesModel_seal N (two A B W z) B a b = some r := by
  have hN3 : 300 < N := by omega
  obtain ⟨r, q1, q2⟩ := o_seal (N := N) (A := A) (X := stR B W z) (B := B) (Y := stC A W z) h a b (by omega)
  refine ⟨r, q1, ?_⟩
  unfold two
  rw [st_comm hAB]
  exact q2
theorem t_update (hAB : A + 212 ≤ B) {z : St} (h : stS s0 z) (hN : 1100 < N) (hn : za_n z ≤ 60000) (a b d : Int32) : ∃ (r : Int32) (Z1 : zh_T) (y : St), za_n y ≤ za_n z + 1 ∧ f_ZoneNodes_update N (two A B W z) A a b d = some (r, Z1) ∧ zck Z1 B 9 = some () ∧ f_ZoneNodesModel_update N Z1 B a b d = some (r, two A B W y) ∧ stS s0 y := by
  have hN3 : 300 < N := by omega
  refine turn (fc := fun Z => f_ZoneNodes_update N Z A a b d) (fr := fun Z => f_ZoneNodesModel_update N Z B a b d) hAB z (fun X Y => ?_) W
  obtain ⟨r, V', n', c', jc', pd', M', F', J', G', K', w', e', R', q0, q1, q2, q3⟩ := o_update (N := N) (A := A) (X := X) (B := B) (Y := Y) h a b d hN
  exact ⟨r, mkS V' n' c' jc' pd' M' F' (za_I z) J' G' K' w' e' R', q0, q1, q2, q3⟩
theorem t_arm (hAB : A + 212 ≤ B) {z : St} (h : stS s0 z) (hN : 1100 < N) (hn : za_n z ≤ 60000) (a : Int32) : ∃ (r : Int32) (Z1 : zh_T) (y : St), za_n y ≤ za_n z + 1 ∧ f_ZoneNodes_arm N (two A B W z) A a = some (r, Z1) ∧ zck Z1 B 9 = some () ∧ f_ZoneNodesModel_arm N Z1 B a = some (r, two A B W y) ∧ stS s0 y := by
  have hN3 : 300 < N := by omega
  refine turn (fc := fun Z => f_ZoneNodes_arm N Z A a) (fr := fun Z => f_ZoneNodesModel_arm N Z B a) hAB z (fun X Y => ?_) W
  obtain ⟨r, M', R', q1, q2, q3⟩ := o_arm (N := N) (A := A) (X := X) (B := B) (Y := Y) h a 
  exact ⟨r, mkS (za_V z) (za_n z) (za_c z) (za_jc z) (za_pd z) M' (za_F z) (za_I z) (za_J z) (za_G z) (za_K z) (za_w z) (za_e z) R', Nat.le_succ _, q1, q2, q3⟩
theorem t_tick (hAB : A + 212 ≤ B) {z : St} (h : stS s0 z) (hN : 1100 < N) (hn : za_n z ≤ 60000) (a : Int32) : ∃ (r : Int32) (Z1 : zh_T) (y : St), za_n y ≤ za_n z + 1 ∧ f_ZoneNodes_tick N (two A B W z) A a = some (r, Z1) ∧ zck Z1 B 9 = some () ∧ f_ZoneNodesModel_tick N Z1 B a = some (r, two A B W y) ∧ stS s0 y := by
  have hN3 : 300 < N := by omega
  refine turn (fc := fun Z => f_ZoneNodes_tick N Z A a) (fr := fun Z => f_ZoneNodesModel_tick N Z B a) hAB z (fun X Y => ?_) W
  obtain ⟨r, c', F', M', R', q1, q2, q3⟩ := o_tick (N := N) (A := A) (X := X) (B := B) (Y := Y) h a hN3
  exact ⟨r, mkS (za_V z) (za_n z) c' (za_jc z) (za_pd z) M' F' (za_I z) (za_J z) (za_G z) (za_K z) (za_w z) (za_e z) R', Nat.le_succ _, q1, q2, q3⟩
theorem t_deliver (hAB : A + 212 ≤ B) {z : St} (h : stS s0 z) (hN : 1100 < N) (hn : za_n z ≤ 60000) (a : Int32) : ∃ (r : Int32) (Z1 : zh_T) (y : St), za_n y ≤ za_n z + 1 ∧ f_ZoneNodes_deliver N (two A B W z) A a = some (r, Z1) ∧ zck Z1 B 9 = some () ∧ f_ZoneNodesModel_deliver N Z1 B a = some (r, two A B W y) ∧ stS s0 y := by
  have hN3 : 300 < N := by omega
  refine turn (fc := fun Z => f_ZoneNodes_deliver N Z A a) (fr := fun Z => f_ZoneNodesModel_deliver N Z B a) hAB z (fun X Y => ?_) W
  obtain ⟨r, c', M', F', I', w', R', q1, q2, q3⟩ := o_deliver (N := N) (A := A) (X := X) (B := B) (Y := Y) h a hn hN3
  exact ⟨r, mkS (za_V z) (za_n z) c' (za_jc z) (za_pd z) M' F' I' (za_J z) (za_G z) (za_K z) w' (za_e z) R', Nat.le_succ _, q1, q2, q3⟩
theorem t_drop (hAB : A + 212 ≤ B) {z : St} (h : stS s0 z) (hN : 1100 < N) (hn : za_n z ≤ 60000) (a : Int32) : ∃ (r : Int32) (Z1 : zh_T) (y : St), za_n y ≤ za_n z + 1 ∧ f_ZoneNodes_drop N (two A B W z) A a = some (r, Z1) ∧ zck Z1 B 9 = some () ∧ f_ZoneNodesModel_drop N Z1 B a = some (r, two A B W y) ∧ stS s0 y := by
  have hN3 : 300 < N := by omega
  refine turn (fc := fun Z => f_ZoneNodes_drop N Z A a) (fr := fun Z => f_ZoneNodesModel_drop N Z B a) hAB z (fun X Y => ?_) W
  obtain ⟨r, c', M', w', R', q1, q2, q3⟩ := o_drop (N := N) (A := A) (X := X) (B := B) (Y := Y) h a hN3
  exact ⟨r, mkS (za_V z) (za_n z) c' (za_jc z) (za_pd z) M' (za_F z) (za_I z) (za_J z) (za_G z) (za_K z) w' (za_e z) R', Nat.le_succ _, q1, q2, q3⟩
theorem t_alter (hAB : A + 212 ≤ B) {z : St} (h : stS s0 z) (hN : 1100 < N) (hn : za_n z ≤ 60000) (a : Int32) : ∃ (r : Int32) (Z1 : zh_T) (y : St), za_n y ≤ za_n z + 1 ∧ f_ZoneNodes_alter N (two A B W z) A a = some (r, Z1) ∧ zck Z1 B 9 = some () ∧ f_ZoneNodesModel_alter N Z1 B a = some (r, two A B W y) ∧ stS s0 y := by
  have hN3 : 300 < N := by omega
  refine turn (fc := fun Z => f_ZoneNodes_alter N Z A a) (fr := fun Z => f_ZoneNodesModel_alter N Z B a) hAB z (fun X Y => ?_) W
  obtain ⟨r, F', R', q1, q2, q3⟩ := o_alter (N := N) (A := A) (X := X) (B := B) (Y := Y) h a 
  exact ⟨r, mkS (za_V z) (za_n z) (za_c z) (za_jc z) (za_pd z) (za_M z) F' (za_I z) (za_J z) (za_G z) (za_K z) (za_w z) (za_e z) R', Nat.le_succ _, q1, q2, q3⟩
theorem t_crash (hAB : A + 212 ≤ B) {z : St} (h : stS s0 z) (hN : 1100 < N) (hn : za_n z ≤ 60000) (a : Int32) : ∃ (r : Int32) (Z1 : zh_T) (y : St), za_n y ≤ za_n z + 1 ∧ f_ZoneNodes_crash N (two A B W z) A a = some (r, Z1) ∧ zck Z1 B 9 = some () ∧ f_ZoneNodesModel_crash N Z1 B a = some (r, two A B W y) ∧ stS s0 y := by
  have hN3 : 300 < N := by omega
  refine turn (fc := fun Z => f_ZoneNodes_crash N Z A a) (fr := fun Z => f_ZoneNodesModel_crash N Z B a) hAB z (fun X Y => ?_) W
  obtain ⟨r, c', M', w', R', q1, q2, q3⟩ := o_crash (N := N) (A := A) (X := X) (B := B) (Y := Y) h a hN3
  exact ⟨r, mkS (za_V z) (za_n z) c' (za_jc z) (za_pd z) M' (za_F z) (za_I z) (za_J z) (za_G z) (za_K z) w' (za_e z) R', Nat.le_succ _, q1, q2, q3⟩
theorem t_restart (hAB : A + 212 ≤ B) {z : St} (h : stS s0 z) (hN : 1100 < N) (hn : za_n z ≤ 60000) (a : Int32) : ∃ (r : Int32) (Z1 : zh_T) (y : St), za_n y ≤ za_n z + 1 ∧ f_ZoneNodes_restart N (two A B W z) A a = some (r, Z1) ∧ zck Z1 B 9 = some () ∧ f_ZoneNodesModel_restart N Z1 B a = some (r, two A B W y) ∧ stS s0 y := by
  have hN3 : 300 < N := by omega
  refine turn (fc := fun Z => f_ZoneNodes_restart N Z A a) (fr := fun Z => f_ZoneNodesModel_restart N Z B a) hAB z (fun X Y => ?_) W
  obtain ⟨r, n', c', jc', pd', M', F', e', R', q0, q1, q2, q3⟩ := o_restart (N := N) (A := A) (X := X) (B := B) (Y := Y) h a hN
  exact ⟨r, mkS (za_V z) n' c' jc' pd' M' F' (za_I z) (za_J z) (za_G z) (za_K z) (za_w z) e' R', q0, q1, q2, q3⟩
theorem t_messages (hAB : A + 212 ≤ B) {z : St} (h : stS s0 z) (hN : 1100 < N) : ∃ r : Int32, f_ZoneNodes_messages N (two A B W z) A = some r ∧ f_ZoneNodesModel_messages N (two A B W z) B = some r := by
  have hN3 : 300 < N := by omega
  obtain ⟨r, q1, q2⟩ := o_messages (N := N) (A := A) (X := stR B W z) (B := B) (Y := stC A W z) h 
  refine ⟨r, q1, ?_⟩
  unfold two
  rw [st_comm hAB]
  exact q2
theorem t_message (hAB : A + 212 ≤ B) {z : St} (h : stS s0 z) (hN : 1100 < N) (a : Int32) : ∃ r : Int32, f_ZoneNodes_message N (two A B W z) A a = some r ∧ f_ZoneNodesModel_message N (two A B W z) B a = some r := by
  have hN3 : 300 < N := by omega
  obtain ⟨r, q1, q2⟩ := o_message (N := N) (A := A) (X := stR B W z) (B := B) (Y := stC A W z) h a 
  refine ⟨r, q1, ?_⟩
  unfold two
  rw [st_comm hAB]
  exact q2
theorem t_serial (hAB : A + 212 ≤ B) {z : St} (h : stS s0 z) (hN : 1100 < N) (a : Int32) : ∃ r : Int32, f_ZoneNodes_serial N (two A B W z) A a = some r ∧ f_ZoneNodesModel_serial N (two A B W z) B a = some r := by
  have hN3 : 300 < N := by omega
  obtain ⟨r, q1, q2⟩ := o_serial (N := N) (A := A) (X := stR B W z) (B := B) (Y := stC A W z) h a 
  refine ⟨r, q1, ?_⟩
  unfold two
  rw [st_comm hAB]
  exact q2
theorem t_size (hAB : A + 212 ≤ B) {z : St} (h : stS s0 z) (hN : 1100 < N) (a : Int32) : ∃ r : Int32, f_ZoneNodes_size N (two A B W z) A a = some r ∧ f_ZoneNodesModel_size N (two A B W z) B a = some r := by
  have hN3 : 300 < N := by omega
  obtain ⟨r, q1, q2⟩ := o_size (N := N) (A := A) (X := stR B W z) (B := B) (Y := stC A W z) h a hN3
  refine ⟨r, q1, ?_⟩
  unfold two
  rw [st_comm hAB]
  exact q2
theorem t_has (hAB : A + 212 ≤ B) {z : St} (h : stS s0 z) (hN : 1100 < N) (a b d f : Int32) : ∃ r : Int32, f_ZoneNodes_has N (two A B W z) A a b d f = some r ∧ f_ZoneNodesModel_has N (two A B W z) B a b d f = some r := by
  have hN3 : 300 < N := by omega
  obtain ⟨r, q1, q2⟩ := o_has (N := N) (A := A) (X := stR B W z) (B := B) (Y := stC A W z) h a b d f 
  refine ⟨r, q1, ?_⟩
  unfold two
  rw [st_comm hAB]
  exact q2
theorem t_query (hAB : A + 212 ≤ B) {z : St} (h : stS s0 z) (hN : 1100 < N) (a b d : Int32) : ∃ r : Int32, f_ZoneNodes_query N (two A B W z) A a b d = some r ∧ f_ZoneNodesModel_query N (two A B W z) B a b d = some r := by
  have hN3 : 300 < N := by omega
  obtain ⟨r, q1, q2⟩ := o_query (N := N) (A := A) (X := stR B W z) (B := B) (Y := stC A W z) h a b d hN3
  refine ⟨r, q1, ?_⟩
  unfold two
  rw [st_comm hAB]
  exact q2
theorem t_state (hAB : A + 212 ≤ B) {z : St} (h : stS s0 z) (hN : 1100 < N) (a : Int32) : ∃ r : Int32, f_ZoneNodes_state N (two A B W z) A a = some r ∧ f_ZoneNodesModel_state N (two A B W z) B a = some r := by
  have hN3 : 300 < N := by omega
  obtain ⟨r, q1, q2⟩ := o_state (N := N) (A := A) (X := stR B W z) (B := B) (Y := stC A W z) h a 
  refine ⟨r, q1, ?_⟩
  unfold two
  rw [st_comm hAB]
  exact q2
theorem t_journal (hAB : A + 212 ≤ B) {z : St} (h : stS s0 z) (hN : 1100 < N) : ∃ r : Int32, f_ZoneNodes_journal N (two A B W z) A = some r ∧ f_ZoneNodesModel_journal N (two A B W z) B = some r := by
  have hN3 : 300 < N := by omega
  obtain ⟨r, q1, q2⟩ := o_journal (N := N) (A := A) (X := stR B W z) (B := B) (Y := stC A W z) h 
  refine ⟨r, q1, ?_⟩
  unfold two
  rw [st_comm hAB]
  exact q2
theorem loop_ok (hAB : A + 212 ≤ B) (hN : 1100 < N) (hL : L ≤ 2564) : ∀ (m t f : Nat) (z : St), L ≤ 4 + 5 * t + 5 * m → t + m ≤ 600 → m < f → za_n z ≤ t → stS s0 z → ∃ Z, L_ZoneNodesLaw_law_58 N xs L A B f (two A B W z) (ni (4 + 5 * t)) = some (.inr ((), Z)) := by
  intro m
  induction m with
  | zero =>
    intro t f z h1 h2 h3 h4 h5
    obtain ⟨g, rfl⟩ : ∃ g, f = g + 1 := ⟨f - 1, by omega⟩
    rw [L_ZoneNodesLaw_law_58, if_pos ((law_end (L := L) (i := 4 + 5 * t) (by omega) (by omega)).mpr (by omega))]
    exact ⟨_, rfl⟩
  | succ m ih =>
    intro t f z h1 h2 h3 h4 h5
    obtain ⟨g, rfl⟩ : ∃ g, f = g + 1 := ⟨f - 1, by omega⟩
    by_cases hend : L < 4 + 5 * t + 5
    · rw [L_ZoneNodesLaw_law_58, if_pos ((law_end (L := L) (i := 4 + 5 * t) (by omega) (by omega)).mpr hend)]
      exact ⟨_, rfl⟩
    · have hn : za_n z ≤ 60000 := by omega
      have z0 : zsc xs L (ni (4 + 5 * t)) = some (xs (4 + 5 * t)) := zsc_ok (by omega) (by omega)
      have z1 : zsc xs L (ni (4 + 5 * t) + 1) = some (xs (4 + 5 * t + 1)) := by
        rw [show (1 : Int32) = ni 1 from rfl, ni_add]
        exact zsc_ok (by omega) (by omega)
      have z2 : zsc xs L (ni (4 + 5 * t) + 2) = some (xs (4 + 5 * t + 2)) := by
        rw [show (2 : Int32) = ni 2 from rfl, ni_add]
        exact zsc_ok (by omega) (by omega)
      have z3 : zsc xs L (ni (4 + 5 * t) + 3) = some (xs (4 + 5 * t + 3)) := by
        rw [show (3 : Int32) = ni 3 from rfl, ni_add]
        exact zsc_ok (by omega) (by omega)
      have z4 : zsc xs L (ni (4 + 5 * t) + 4) = some (xs (4 + 5 * t + 4)) := by
        rw [show (4 : Int32) = ni 4 from rfl, ni_add]
        exact zsc_ok (by omega) (by omega)
      have e5 : ni (4 + 5 * t) + 5 = ni (4 + 5 * (t + 1)) := by
        rw [show (5 : Int32) = ni 5 from rfl, ni_add, show 4 + 5 * t + 5 = 4 + 5 * (t + 1) by omega]
      have nx : ∀ y : St, za_n y ≤ za_n z + 1 → stS s0 y → ∃ Z, L_ZoneNodesLaw_law_58 N xs L A B g (two A B W y) (ni (4 + 5 * (t + 1))) = some (.inr ((), Z)) := fun y y1 y2 => ih (t + 1) g y (by omega) (by omega) (by omega) (by omega) y2
      rw [L_ZoneNodesLaw_law_58, if_neg (fun q => hend ((law_end (L := L) (i := 4 + 5 * t) (by omega) (by omega)).mp q)), z0, zb1_some]
      generalize xs (4 + 5 * t) &&& 31 = op
      by_cases hq0 : op = 0
      · rw [if_pos hq0]
        obtain ⟨r, Z1, y, y0, y1, y2, y3, y4⟩ := t_key (W := W) hAB h5 hN hn (xs (4 + 5 * t + 1)) (xs (4 + 5 * t + 2))
        rw [z1, zb1_some, z2, zb1_some, ckC, zb1_some, y1, zb2_some, zb1_some, zb1_some, y2, zb1_some, y3, zb2_some, if_pos rfl, e5]
        exact nx y y0 y4
      rw [if_neg hq0]
      by_cases hq1 : op = 1
      · rw [if_pos hq1]
        obtain ⟨r, Z1, y, y0, y1, y2, y3, y4⟩ := t_need (W := W) hAB h5 hN hn (xs (4 + 5 * t + 1)) (xs (4 + 5 * t + 2)) (xs (4 + 5 * t + 3)) (xs (4 + 5 * t + 4))
        rw [z1, zb1_some, z2, zb1_some, z3, zb1_some, z4, zb1_some, ckC, zb1_some, y1, zb2_some, zb1_some, zb1_some, zb1_some, zb1_some, y2, zb1_some, y3, zb2_some, if_pos rfl, e5]
        exact nx y y0 y4
      rw [if_neg hq1]
      by_cases hq2 : op = 2
      · rw [if_pos hq2]
        obtain ⟨r, Z1, y, y0, y1, y2, y3, y4⟩ := t_change (W := W) hAB h5 hN hn (xs (4 + 5 * t + 1)) (xs (4 + 5 * t + 2)) (xs (4 + 5 * t + 3)) (xs (4 + 5 * t + 4))
        rw [z1, zb1_some, z2, zb1_some, z3, zb1_some, z4, zb1_some, ckC, zb1_some, y1, zb2_some, zb1_some, zb1_some, zb1_some, zb1_some, y2, zb1_some, y3, zb2_some, if_pos rfl, e5]
        exact nx y y0 y4
      rw [if_neg hq2]
      by_cases hq3 : op = 3
      · rw [if_pos hq3]
        obtain ⟨r, y1, y2⟩ := t_seal (W := W) hAB h5 hN (xs (4 + 5 * t + 1)) (xs (4 + 5 * t + 2))
        rw [z1, zb1_some, z2, zb1_some, ckC, zb1_some, y1, zb1_some, zb1_some, zb1_some, ckR hAB, zb1_some, y2, zb1_some, if_pos rfl, e5]
        exact nx z (Nat.le_succ _) h5
      rw [if_neg hq3]
      by_cases hq4 : op = 4
      · rw [if_pos hq4]
        obtain ⟨r, Z1, y, y0, y1, y2, y3, y4⟩ := t_update (W := W) hAB h5 hN hn (xs (4 + 5 * t + 1)) (xs (4 + 5 * t + 2)) (xs (4 + 5 * t + 3))
        rw [z1, zb1_some, z2, zb1_some, z3, zb1_some, ckC, zb1_some, y1, zb2_some, zb1_some, zb1_some, zb1_some, y2, zb1_some, y3, zb2_some, if_pos rfl, e5]
        exact nx y y0 y4
      rw [if_neg hq4]
      by_cases hq5 : op = 5
      · rw [if_pos hq5]
        obtain ⟨r, Z1, y, y0, y1, y2, y3, y4⟩ := t_arm (W := W) hAB h5 hN hn (xs (4 + 5 * t + 1))
        rw [z1, zb1_some, ckC, zb1_some, y1, zb2_some, zb1_some, y2, zb1_some, y3, zb2_some, if_pos rfl, e5]
        exact nx y y0 y4
      rw [if_neg hq5]
      by_cases hq6 : op = 6
      · rw [if_pos hq6]
        obtain ⟨r, Z1, y, y0, y1, y2, y3, y4⟩ := t_tick (W := W) hAB h5 hN hn (xs (4 + 5 * t + 1))
        rw [z1, zb1_some, ckC, zb1_some, y1, zb2_some, zb1_some, y2, zb1_some, y3, zb2_some, if_pos rfl, e5]
        exact nx y y0 y4
      rw [if_neg hq6]
      by_cases hq7 : op = 7
      · rw [if_pos hq7]
        obtain ⟨r, Z1, y, y0, y1, y2, y3, y4⟩ := t_deliver (W := W) hAB h5 hN hn (xs (4 + 5 * t + 1))
        rw [z1, zb1_some, ckC, zb1_some, y1, zb2_some, zb1_some, y2, zb1_some, y3, zb2_some, if_pos rfl, e5]
        exact nx y y0 y4
      rw [if_neg hq7]
      by_cases hq8 : op = 8
      · rw [if_pos hq8]
        obtain ⟨r, Z1, y, y0, y1, y2, y3, y4⟩ := t_drop (W := W) hAB h5 hN hn (xs (4 + 5 * t + 1))
        rw [z1, zb1_some, ckC, zb1_some, y1, zb2_some, zb1_some, y2, zb1_some, y3, zb2_some, if_pos rfl, e5]
        exact nx y y0 y4
      rw [if_neg hq8]
      by_cases hq9 : op = 9
      · rw [if_pos hq9]
        obtain ⟨r, Z1, y, y0, y1, y2, y3, y4⟩ := t_alter (W := W) hAB h5 hN hn (xs (4 + 5 * t + 1))
        rw [z1, zb1_some, ckC, zb1_some, y1, zb2_some, zb1_some, y2, zb1_some, y3, zb2_some, if_pos rfl, e5]
        exact nx y y0 y4
      rw [if_neg hq9]
      by_cases hq10 : op = 10
      · rw [if_pos hq10]
        obtain ⟨r, Z1, y, y0, y1, y2, y3, y4⟩ := t_crash (W := W) hAB h5 hN hn (xs (4 + 5 * t + 1))
        rw [z1, zb1_some, ckC, zb1_some, y1, zb2_some, zb1_some, y2, zb1_some, y3, zb2_some, if_pos rfl, e5]
        exact nx y y0 y4
      rw [if_neg hq10]
      by_cases hq11 : op = 11
      · rw [if_pos hq11]
        obtain ⟨r, Z1, y, y0, y1, y2, y3, y4⟩ := t_restart (W := W) hAB h5 hN hn (xs (4 + 5 * t + 1))
        rw [z1, zb1_some, ckC, zb1_some, y1, zb2_some, zb1_some, y2, zb1_some, y3, zb2_some, if_pos rfl, e5]
        exact nx y y0 y4
      rw [if_neg hq11]
      by_cases hq12 : op = 12
      · rw [if_pos hq12]
        obtain ⟨r, y1, y2⟩ := t_messages (W := W) hAB h5 hN 
        rw [ckC, zb1_some, y1, zb1_some, ckR hAB, zb1_some, y2, zb1_some, if_pos rfl, e5]
        exact nx z (Nat.le_succ _) h5
      rw [if_neg hq12]
      by_cases hq13 : op = 13
      · rw [if_pos hq13]
        obtain ⟨r, y1, y2⟩ := t_message (W := W) hAB h5 hN (xs (4 + 5 * t + 1))
        rw [z1, zb1_some, ckC, zb1_some, y1, zb1_some, zb1_some, ckR hAB, zb1_some, y2, zb1_some, if_pos rfl, e5]
        exact nx z (Nat.le_succ _) h5
      rw [if_neg hq13]
      by_cases hq14 : op = 14
      · rw [if_pos hq14]
        obtain ⟨r, y1, y2⟩ := t_serial (W := W) hAB h5 hN (xs (4 + 5 * t + 1))
        rw [z1, zb1_some, ckC, zb1_some, y1, zb1_some, zb1_some, ckR hAB, zb1_some, y2, zb1_some, if_pos rfl, e5]
        exact nx z (Nat.le_succ _) h5
      rw [if_neg hq14]
      by_cases hq15 : op = 15
      · rw [if_pos hq15]
        obtain ⟨r, y1, y2⟩ := t_size (W := W) hAB h5 hN (xs (4 + 5 * t + 1))
        rw [z1, zb1_some, ckC, zb1_some, y1, zb1_some, zb1_some, ckR hAB, zb1_some, y2, zb1_some, if_pos rfl, e5]
        exact nx z (Nat.le_succ _) h5
      rw [if_neg hq15]
      by_cases hq16 : op = 16
      · rw [if_pos hq16]
        obtain ⟨r, y1, y2⟩ := t_has (W := W) hAB h5 hN (xs (4 + 5 * t + 1)) (xs (4 + 5 * t + 2)) (xs (4 + 5 * t + 3)) (xs (4 + 5 * t + 4))
        rw [z1, zb1_some, z2, zb1_some, z3, zb1_some, z4, zb1_some, ckC, zb1_some, y1, zb1_some, zb1_some, zb1_some, zb1_some, zb1_some, ckR hAB, zb1_some, y2, zb1_some, if_pos rfl, e5]
        exact nx z (Nat.le_succ _) h5
      rw [if_neg hq16]
      by_cases hq17 : op = 17
      · rw [if_pos hq17]
        obtain ⟨r, y1, y2⟩ := t_query (W := W) hAB h5 hN (xs (4 + 5 * t + 1)) (xs (4 + 5 * t + 2)) (xs (4 + 5 * t + 3))
        rw [z1, zb1_some, z2, zb1_some, z3, zb1_some, ckC, zb1_some, y1, zb1_some, zb1_some, zb1_some, zb1_some, ckR hAB, zb1_some, y2, zb1_some, if_pos rfl, e5]
        exact nx z (Nat.le_succ _) h5
      rw [if_neg hq17]
      by_cases hq18 : op = 18
      · rw [if_pos hq18]
        obtain ⟨r, y1, y2⟩ := t_state (W := W) hAB h5 hN (xs (4 + 5 * t + 1))
        rw [z1, zb1_some, ckC, zb1_some, y1, zb1_some, zb1_some, ckR hAB, zb1_some, y2, zb1_some, if_pos rfl, e5]
        exact nx z (Nat.le_succ _) h5
      rw [if_neg hq18]
      by_cases hq19 : op = 19
      · rw [if_pos hq19]
        obtain ⟨r, y1, y2⟩ := t_journal (W := W) hAB h5 hN 
        rw [ckC, zb1_some, y1, zb1_some, ckR hAB, zb1_some, y2, zb1_some, if_pos rfl, e5]
        exact nx z (Nat.le_succ _) h5
      rw [if_neg hq19]
      rw [e5]
      exact nx z (Nat.le_succ _) h5
end ZLOOP
