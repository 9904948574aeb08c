/-! the reference: its sets as rows of flags -/
def rb (g : Nat → Int32) (q : Nat) : Bool := decide (g q = 1)
theorem rb_zero {g : Nat → Int32} {n q : Nat} (h : b01 g n) (hq : q < n) : g q = 0 ↔ rb g q = false := by
  unfold rb
  rcases h q hq with h1 | h1
  · rw [h1]
    decide
  · rw [h1]
    decide
/-- places o1 + i .. o1 + n - 1 of a row as places o2 + i .. of another -/
def cpR (g h : Nat → Int32) (o1 o2 i n : Nat) : Nat → Int32 := fun j => if o1 + i ≤ j ∧ j < o1 + n then h (o2 + (j - o1)) else g j
theorem cpR_end (g h : Nat → Int32) (o1 o2 n : Nat) : cpR g h o1 o2 n n = g := by
  funext j
  exact if_neg (by omega)
theorem cpR_step {i n : Nat} (hi : i < n) (g h : Nat → Int32) (o1 o2 : Nat) : cpR (upd g (o1 + i) (h (o2 + i))) h o1 o2 (i + 1) n = cpR g h o1 o2 i n := by
  funext j
  unfold cpR upd
  by_cases e : j = o1 + i
  · subst e
    rw [if_neg (by omega), if_pos rfl, if_pos (by omega), Nat.add_sub_cancel_left]
  · by_cases e1 : o1 + (i + 1) ≤ j ∧ j < o1 + n
    · rw [if_pos e1, if_pos (by omega)]
    · rw [if_neg e1, if_neg e, if_neg (by omega)]
theorem cpR_in (g h : Nat → Int32) {o1 o2 n q : Nat} (hq : q < n) : cpR g h o1 o2 0 n (o1 + q) = h (o2 + q) := by
  unfold cpR
  rw [if_pos (by omega), Nat.add_sub_cancel_left]
theorem cpR_out (g h : Nat → Int32) {o1 o2 n j : Nat} (hj : j < o1 ∨ o1 + n ≤ j) : cpR g h o1 o2 0 n j = g j := if_neg (by omega)
theorem cpR_b01 {g h : Nat → Int32} {o1 o2 n L L' : Nat} (hg : b01 g L) (hh : b01 h L') (ho : o2 + n ≤ L') : b01 (cpR g h o1 o2 0 n) L := by
  intro j hj
  unfold cpR
  split
  · exact hh _ (by omega)
  · exact hg j hj
section ZREFN
variable {B : Nat} {Y : zh_T} {R : Nat → Nat → Int32} {N : Nat}
theorem k_works_L {hi : Nat} (h256 : hi ≤ 256) (hb : b01 (R 16) 256) : ∀ (m k f v : Nat), k + m = hi → m < f → L_ZoneNodesModel_works_5 N (zR B Y R) B (ni hi) f (ni v) (ni k) = some (ni (v + cnt (rb (R 16)) k m)) := by
  intro m
  induction m with
  | zero =>
    intro k f v h3 h4
    obtain ⟨g, rfl⟩ : ∃ g, f = g + 1 := ⟨f - 1, by omega⟩
    rw [L_ZoneNodesModel_works_5, if_pos ((zle (i := k) (m := hi) (by omega) (by omega)).mpr (by omega))]
    rfl
  | succ m ih =>
    intro k f v h3 h4
    obtain ⟨g, rfl⟩ : ∃ g, f = g + 1 := ⟨f - 1, by omega⟩
    rw [L_ZoneNodesModel_works_5, if_neg (fun q => absurd ((zle (i := k) (m := hi) (by omega) (by omega)).mp q) (by omega)), rr23, zb1_some, ra16 (i := k) (by omega), zb1_some, Int32.add_zero, ni_succ, ni_succ, ih (k + 1) g v (by omega) (by omega), ih (k + 1) g (v + 1) (by omega) (by omega), cnt]
    cases hr : rb (R 16) k with
    | false =>
      rw [if_pos ((rb_zero hb (by omega)).mpr hr), if_neg (by decide), Nat.zero_add]
    | true =>
      rw [if_neg (fun q => by rw [(rb_zero hb (by omega)).mp q] at hr; cases hr), if_pos rfl, Nat.add_assoc]
theorem k_works {lo hi : Nat} (h : lo ≤ hi) (h256 : hi ≤ 256) (hb : b01 (R 16) 256) (hN : 300 < N) : f_ZoneNodesModel_works N (zR B Y R) B (ni lo) (ni hi) = some (ni (cnt (rb (R 16)) lo (hi - lo))) := by
  unfold f_ZoneNodesModel_works
  have e := k_works_L (N := N) (B := B) (Y := Y) h256 hb (hi - lo) lo N 0 (by omega) (by omega)
  rw [Nat.zero_add] at e
  rw [show (0 : Int32) = ni 0 from rfl, e, zb1_some]
theorem k_size_L {x : Nat} (hx : x < 3) (hb : b01 (R 4) 768) : ∀ (m k f v : Nat), k + m = 256 * x + 256 → m < f → L_ZoneNodesModel_size_26 N (zR B Y R) B (ni x) f (ni v) (ni k) = some (ni (v + cnt (rb (R 4)) k m)) := by
  intro m
  induction m with
  | zero =>
    intro k f v h3 h4
    obtain ⟨g, rfl⟩ : ∃ g, f = g + 1 := ⟨f - 1, by omega⟩
    rw [L_ZoneNodesModel_size_26, show (256 : Int32) = ni 256 from rfl, ni_mul, ni_add, if_pos ((zle (i := k) (m := 256 * x + 256) (by omega) (by omega)).mpr (by omega))]
    rfl
  | succ m ih =>
    intro k f v h3 h4
    obtain ⟨g, rfl⟩ : ∃ g, f = g + 1 := ⟨f - 1, by omega⟩
    rw [L_ZoneNodesModel_size_26, show (256 : Int32) = ni 256 from rfl, ni_mul, ni_add, if_neg (fun q => absurd ((zle (i := k) (m := 256 * x + 256) (by omega) (by omega)).mp q) (by omega)), rr7, zb1_some, ra4 (i := k) (by omega), zb1_some, Int32.add_zero, ni_succ, ni_succ, ih (k + 1) g v (by omega) (by omega), ih (k + 1) g (v + 1) (by omega) (by omega), cnt]
    cases hr : rb (R 4) k with
    | false =>
      rw [if_pos ((rb_zero hb (by omega)).mpr hr), if_neg (by decide), Nat.zero_add]
    | true =>
      rw [if_neg (fun q => by rw [(rb_zero hb (by omega)).mp q] at hr; cases hr), if_pos rfl, Nat.add_assoc]
theorem k_shown_L {x nm fr cl : Nat} (hx : x < 3) (hc : 32 * nm + fr + cl ≤ 256) (hb : b01 (R 4) 768) : ∀ (m k f v : Nat), k + m = cl → m < f → L_ZoneNodesModel_shown_6 N (zR B Y R) B (ni x) (ni nm) (ni fr) (ni cl) f (ni v) (ni k) = some (ni (v + cnt (rb (R 4)) (256 * x + 32 * nm + fr + k) m)) := by
  intro m
  induction m with
  | zero =>
    intro k f v h3 h4
    obtain ⟨g, rfl⟩ : ∃ g, f = g + 1 := ⟨f - 1, by omega⟩
    rw [L_ZoneNodesModel_shown_6, if_pos ((zle (i := k) (m := cl) (by omega) (by omega)).mpr (by omega))]
    rfl
  | succ m ih =>
    intro k f v h3 h4
    obtain ⟨g, rfl⟩ : ∃ g, f = g + 1 := ⟨f - 1, by omega⟩
    rw [L_ZoneNodesModel_shown_6, if_neg (fun q => absurd ((zle (i := k) (m := cl) (by omega) (by omega)).mp q) (by omega)), rr7, zb1_some, show (256 : Int32) = ni 256 from rfl, show (32 : Int32) = ni 32 from rfl, ni_mul, ni_mul, ni_add, ni_add, ni_add, ra4 (i := 256 * x + 32 * nm + fr + k) (by omega), zb1_some, Int32.add_zero, ni_succ, ni_succ, ih (k + 1) g v (by omega) (by omega), ih (k + 1) g (v + 1) (by omega) (by omega), cnt]
    cases hr : rb (R 4) (256 * x + 32 * nm + fr + k) with
    | false =>
      rw [if_pos ((rb_zero hb (by omega)).mpr hr), if_neg (by decide), Nat.zero_add]
      rfl
    | true =>
      rw [if_neg (fun q => by rw [(rb_zero hb (by omega)).mp q] at hr; cases hr), if_pos rfl, Nat.add_assoc]
      rfl
theorem k_shown {x nm fr cl : Nat} (hx : x < 3) (hc : 32 * nm + fr + cl ≤ 256) (hb : b01 (R 4) 768) (hN : 300 < N) : f_ZoneNodesModel_shown N (zR B Y R) B (ni x) (ni nm) (ni fr) (ni cl) = some (ni (cnt (rb (R 4)) (256 * x + 32 * nm + fr) cl)) := by
  unfold f_ZoneNodesModel_shown
  have e := k_shown_L (N := N) (B := B) (Y := Y) (fr := fr) hx hc hb cl 0 N 0 (by omega) (by omega)
  rw [Nat.zero_add, Nat.add_zero] at e
  rw [show (0 : Int32) = ni 0 from rfl, e, zb1_some]
/-! the copies -/
theorem k_copy_work (a b c : Int32) : ∀ (m i f : Nat) (R : Nat → Nat → Int32), b01 (R 4) 768 → i + m = 256 → m < f → L_ZoneNodesModel_update_32 N B a b c f (zR B Y R) (ni i) = some ((), zR B Y (zu R 16 (cpR (R 16) (R 4) 0 0 i 256))) := by
  intro m
  induction m with
  | zero =>
    intro i f R hb h3 h4
    obtain ⟨g, rfl⟩ : ∃ g, f = g + 1 := ⟨f - 1, by omega⟩
    have e : i = 256 := by omega
    subst e
    rw [L_ZoneNodesModel_update_32, if_pos (show (256 : Int32) ≤ ni 256 from Int32.le_refl _), cpR_end, zu_id]
  | succ m ih =>
    intro i f R hb h3 h4
    obtain ⟨g, rfl⟩ : ∃ g, f = g + 1 := ⟨f - 1, by omega⟩
    rw [L_ZoneNodesModel_update_32, if_neg (show ¬ (256 : Int32) ≤ ni i from fun q => absurd ((ni_le (a := 256) (b := i) (by decide) (by omega)).mp q) (by omega)), rr23, zb1_some, rr7, zb1_some, ra4 (i := i) (by omega), zb1_some, rs16 (i := i) (by omega) (hb i (by omega)), zb1_some, ni_succ, ih (i + 1) g (zu R 16 (upd (R 16) i (R 4 i))) hb (by omega) (by omega), zu_zu, zu_same, zu_ne _ (by decide : (4 : Nat) ≠ 16)]
    have e := cpR_step (show i < 256 by omega) (R 16) (R 4) 0 0
    rw [Nat.zero_add] at e
    rw [e]
theorem k_copy_coming {s : Nat} (hs : s < 3) (a : Int32) : ∀ (m i f : Nat) (R : Nat → Nat → Int32), b01 (R 4) 768 → i + m = 256 → m < f → L_ZoneNodesModel_takeFetch_11 N B (ni s) a f (zR B Y R) (ni i) = some ((), zR B Y (zu R 5 (cpR (R 5) (R 4) (256 * s) 0 i 256))) := by
  intro m
  induction m with
  | zero =>
    intro i f R hb h3 h4
    obtain ⟨g, rfl⟩ : ∃ g, f = g + 1 := ⟨f - 1, by omega⟩
    have e : i = 256 := by omega
    subst e
    rw [L_ZoneNodesModel_takeFetch_11, if_pos (show (256 : Int32) ≤ ni 256 from Int32.le_refl _), cpR_end, zu_id]
  | succ m ih =>
    intro i f R hb h3 h4
    obtain ⟨g, rfl⟩ : ∃ g, f = g + 1 := ⟨f - 1, by omega⟩
    rw [L_ZoneNodesModel_takeFetch_11, if_neg (show ¬ (256 : Int32) ≤ ni i from fun q => absurd ((ni_le (a := 256) (b := i) (by decide) (by omega)).mp q) (by omega)), rr8, zb1_some, rr7, zb1_some, ra4 (i := i) (by omega), zb1_some, show (256 : Int32) = ni 256 from rfl, ni_mul, ni_add, rs5 (i := 256 * s + i) (by omega) (hb i (by omega)), zb1_some, ni_succ, ih (i + 1) g (zu R 5 (upd (R 5) (256 * s + i) (R 4 i))) hb (by omega) (by omega), zu_zu, zu_same, zu_ne _ (by decide : (4 : Nat) ≠ 5)]
    have e := cpR_step (show i < 256 by omega) (R 5) (R 4) (256 * s) 0
    rw [Nat.zero_add] at e
    rw [e]
theorem k_copy_held {s : Nat} (hs : s < 3) : ∀ (m i f : Nat) (R : Nat → Nat → Int32), b01 (R 5) 768 → i + m = 256 → m < f → L_ZoneNodesModel_takePart_43 N B (ni s) f (zR B Y R) (ni i) = some ((), zR B Y (zu R 4 (cpR (R 4) (R 5) (256 * s) (256 * s) i 256))) := by
  intro m
  induction m with
  | zero =>
    intro i f R hb h3 h4
    obtain ⟨g, rfl⟩ : ∃ g, f = g + 1 := ⟨f - 1, by omega⟩
    have e : i = 256 := by omega
    subst e
    rw [L_ZoneNodesModel_takePart_43, if_pos (show (256 : Int32) ≤ ni 256 from Int32.le_refl _), cpR_end, zu_id]
  | succ m ih =>
    intro i f R hb h3 h4
    obtain ⟨g, rfl⟩ : ∃ g, f = g + 1 := ⟨f - 1, by omega⟩
    rw [L_ZoneNodesModel_takePart_43, if_neg (show ¬ (256 : Int32) ≤ ni i from fun q => absurd ((ni_le (a := 256) (b := i) (by decide) (by omega)).mp q) (by omega)), rr7, zb1_some, rr8, zb1_some, show (256 : Int32) = ni 256 from rfl, ni_mul, ni_add, ra5 (i := 256 * s + i) (by omega), zb1_some, rs4 (i := 256 * s + i) (by omega) (hb _ (by omega)), zb1_some, ni_succ, ih (i + 1) g (zu R 4 (upd (R 4) (256 * s + i) (R 5 (256 * s + i)))) hb (by omega) (by omega), zu_zu, zu_same, zu_ne _ (by decide : (5 : Nat) ≠ 4), cpR_step (show i < 256 by omega) (R 4) (R 5) (256 * s) (256 * s)]
theorem k_copy_inst {x : Nat} (hx : x < 6) : ∀ (m i f : Nat) (R : Nat → Nat → Int32), b01 (R 14) 1536 → i + m = 256 → m < f → L_ZoneNodesModel_install_9 N B (ni x) f (zR B Y R) (ni i) = some ((), zR B Y (zu R 4 (cpR (R 4) (R 14) 0 (256 * x) i 256))) := by
  intro m
  induction m with
  | zero =>
    intro i f R hb h3 h4
    obtain ⟨g, rfl⟩ : ∃ g, f = g + 1 := ⟨f - 1, by omega⟩
    have e : i = 256 := by omega
    subst e
    rw [L_ZoneNodesModel_install_9, if_pos (show (256 : Int32) ≤ ni 256 from Int32.le_refl _), cpR_end, zu_id]
  | succ m ih =>
    intro i f R hb h3 h4
    obtain ⟨g, rfl⟩ : ∃ g, f = g + 1 := ⟨f - 1, by omega⟩
    rw [L_ZoneNodesModel_install_9, if_neg (show ¬ (256 : Int32) ≤ ni i from fun q => absurd ((ni_le (a := 256) (b := i) (by decide) (by omega)).mp q) (by omega)), rr7, zb1_some, rr21, zb1_some, show (256 : Int32) = ni 256 from rfl, ni_mul, ni_add, ra14 (i := 256 * x + i) (by omega), zb1_some, rs4 (i := i) (by omega) (hb _ (by omega)), zb1_some, ni_succ, ih (i + 1) g (zu R 4 (upd (R 4) i (R 14 (256 * x + i)))) hb (by omega) (by omega), zu_zu, zu_same, zu_ne _ (by decide : (14 : Nat) ≠ 4)]
    have e := cpR_step (show i < 256 by omega) (R 4) (R 14) 0 (256 * x)
    rw [Nat.zero_add] at e
    rw [e]
/-- the entries' sets go up by one entry -/
theorem k_shift_after : ∀ (m i f : Nat) (R : Nat → Nat → Int32), b01 (R 14) 1536 → i + m = 1024 → m < f → L_ZoneNodesModel_install_124 N B f (zR B Y R) (ni i) = some ((), zR B Y (zu R 14 (fun j => if i ≤ j ∧ j < 1024 then R 14 (j + 256) else R 14 j))) := by
  intro m
  induction m with
  | zero =>
    intro i f R hb h3 h4
    obtain ⟨g, rfl⟩ : ∃ g, f = g + 1 := ⟨f - 1, by omega⟩
    have e : i = 1024 := by omega
    subst e
    have e1 : (fun j => if 1024 ≤ j ∧ j < 1024 then R 14 (j + 256) else R 14 j) = R 14 := by
      funext j
      exact if_neg (by omega)
    rw [L_ZoneNodesModel_install_124, if_pos (show (1024 : Int32) ≤ ni 1024 from Int32.le_refl _), e1, zu_id]
  | succ m ih =>
    intro i f R hb h3 h4
    obtain ⟨g, rfl⟩ : ∃ g, f = g + 1 := ⟨f - 1, by omega⟩
    rw [L_ZoneNodesModel_install_124, if_neg (show ¬ (1024 : Int32) ≤ ni i from fun q => absurd ((ni_le (a := 1024) (b := i) (by decide) (by omega)).mp q) (by omega)), rr21, zb1_some, zb1_some, show (256 : Int32) = ni 256 from rfl, ni_add, ra14 (i := i + 256) (by omega), zb1_some, rs14 (i := i) (by omega) (hb _ (by omega)), zb1_some, ni_succ, ih (i + 1) g _ (by rw [zu_same]; exact b01_upd hb (hb _ (by omega))) (by omega) (by omega), zu_zu, zu_same]
    have e1 : (fun j => if i + 1 ≤ j ∧ j < 1024 then upd (R 14) i (R 14 (i + 256)) (j + 256) else upd (R 14) i (R 14 (i + 256)) j) = (fun j => if i ≤ j ∧ j < 1024 then R 14 (j + 256) else R 14 j) := by
      funext j
      unfold upd
      by_cases e : j = i
      · subst e
        rw [if_neg (by omega), if_pos rfl, if_pos (by omega)]
      · by_cases e2 : i + 1 ≤ j ∧ j < 1024
        · rw [if_pos e2, if_neg (by omega), if_pos (by omega)]
        · rw [if_neg e2, if_neg e, if_neg (by omega)]
    rw [e1]
end ZREFN
