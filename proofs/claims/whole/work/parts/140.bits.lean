/-! a choice by a proposition -/
noncomputable def pif {α : Type} (p : Prop) (a b : α) : α := @ite α p (Classical.propDecidable p) a b
theorem pif_pos {α : Type} {p : Prop} (h : p) (a b : α) : pif p a b = a := @if_pos p (Classical.propDecidable p) h α a b
theorem pif_neg {α : Type} {p : Prop} (h : ¬ p) (a b : α) : pif p a b = b := @if_neg p (Classical.propDecidable p) h α a b
theorem pif_congr {α : Type} {p q : Prop} (h : p ↔ q) (a b : α) : pif p a b = pif q a b := by rw [propext h]
/-! bits of an int; sets of records as rows of bytes -/
def bt (x : Int32) (b : Nat) : Bool := x.toBitVec.getLsbD b
def byt (x : Int32) : Prop := ∀ b, 8 ≤ b → bt x b = false
theorem bt_or (x y : Int32) (b : Nat) : bt (x ||| y) b = (bt x b || bt y b) := by simp [bt]
theorem bt_and (x y : Int32) (b : Nat) : bt (x &&& y) b = (bt x b && bt y b) := by simp [bt]
theorem bt_big (x : Int32) {b : Nat} (h : 32 ≤ b) : bt x b = false := BitVec.getLsbD_of_ge _ _ h
theorem bt_not (x : Int32) {b : Nat} (h : b < 32) : bt (x ^^^ (-1)) b = !bt x b := by
  have e : (-1 : Int32).toBitVec = BitVec.allOnes 32 := by decide
  unfold bt
  rw [Int32.toBitVec_xor, e, BitVec.getLsbD_xor, BitVec.getLsbD_allOnes]
  simp [h]
theorem bt_zero (b : Nat) : bt 0 b = false := by simp [bt]
theorem bt_bit {c : Nat} (h : c < 8) (b : Nat) : bt (1 <<< (ni c &&& 31)) b = decide (c = b) := by
  have e : ∀ c, c < 8 → ((1 : Int32) <<< (ni c &&& 31)).toBitVec = BitVec.twoPow 32 c := by decide +kernel
  unfold bt
  rw [e c h, BitVec.getLsbD_twoPow]
  have h1 : c < 32 := by omega
  simp [h1]
theorem bt_shr {c : Nat} (h : c < 8) (x : Int32) : ((x >>> (ni c &&& 31)) &&& 1) = 1 ↔ bt x c = true := by
  have e : ∀ c, c < 8 → ((ni c &&& 31 : Int32).toBitVec.smod 32).toNat = c := by decide +kernel
  have e1 : bt (x >>> (ni c &&& 31)) 0 = bt x c := by
    unfold bt
    rw [Int32.toBitVec_shiftRight, BitVec.getLsbD_sshiftRight', e c h]
    have h1 : c < 32 := by omega
    simp [h1]
  constructor
  · intro q
    have q1 : bt ((x >>> (ni c &&& 31)) &&& 1) 0 = bt 1 0 := by rw [q]
    rw [bt_and, e1] at q1
    simpa [show bt 1 0 = true by decide] using q1
  · intro q
    apply Int32.toBitVec_inj.mp
    apply BitVec.eq_of_getLsbD_eq
    intro i hi
    show bt ((x >>> (ni c &&& 31)) &&& 1) i = bt 1 i
    have e2 : ∀ i, i < 32 → bt 1 i = decide (i = 0) := by decide +kernel
    rw [bt_and, e2 i hi]
    by_cases h0 : i = 0
    · subst h0
      simp [e1, q]
    · simp [h0]
theorem bt_ext {x y : Int32} (hx : byt x) (hy : byt y) (h : ∀ b, b < 8 → bt x b = bt y b) : x = y := by
  apply Int32.toBitVec_inj.mp
  apply BitVec.eq_of_getLsbD_eq
  intro i _
  show bt x i = bt y i
  by_cases hi : i < 8
  · exact h i hi
  · rw [hx i (by omega), hy i (by omega)]
theorem byt_zero : byt 0 := fun b _ => bt_zero b
theorem byt_bit {c : Nat} (h : c < 8) : byt (1 <<< (ni c &&& 31)) := by
  intro b hb
  rw [bt_bit h]
  exact decide_eq_false (by omega)
theorem byt_or {x y : Int32} (hx : byt x) (hy : byt y) : byt (x ||| y) := fun b hb => by rw [bt_or, hx b hb, hy b hb]; rfl
theorem byt_and {x : Int32} (y : Int32) (hx : byt x) : byt (x &&& y) := fun b hb => by rw [bt_and, hx b hb]; rfl
theorem bt_eq0 {x : Int32} (hx : byt x) : x = 0 ↔ ∀ b, b < 8 → bt x b = false := by
  constructor
  · intro h b _
    rw [h, bt_zero]
  · intro h
    exact bt_ext hx byt_zero fun b hb => by rw [h b hb, bt_zero]
theorem byt_lt {x : Int32} (hx : byt x) : ∃ v, v < 256 ∧ x = ni v := by
  have h1 : x.toBitVec.toNat < 2 ^ 8 := Nat.lt_pow_two_of_testBit _ fun i hi => hx i hi
  exact ⟨x.toBitVec.toNat, h1, by
    apply Int32.toBitVec_inj.mp
    apply BitVec.eq_of_toNat_eq
    show x.toBitVec.toNat = (BitVec.ofNat 32 x.toBitVec.toNat).toNat
    rw [BitVec.toNat_ofNat, Nat.mod_eq_of_lt (by omega)]⟩
/-- the record number q (32 * name + 8 * (type - 1) + value) of a set that is held as 32 bytes -/
def cs (g : Nat → Int32) (q : Nat) : Bool := bt (g (q / 8)) (q % 8)
def okS (g : Nat → Int32) : Prop := ∀ i, i < 32 → byt (g i)
/-- how many of from .. from + n - 1 are in it -/
def cnt (s : Nat → Bool) : Nat → Nat → Nat
  | _, 0 => 0
  | o, n + 1 => (if s o then 1 else 0) + cnt s (o + 1) n
theorem cnt_congr {s t : Nat → Bool} : ∀ (n o : Nat), (∀ q, o ≤ q → q < o + n → s q = t q) → cnt s o n = cnt t o n
  | 0, _, _ => rfl
  | n + 1, o, h => by
    unfold cnt
    rw [h o (Nat.le_refl o) (by omega), cnt_congr n (o + 1) fun q h1 h2 => h q (by omega) (by omega)]
theorem cnt_add (s : Nat → Bool) : ∀ (n o m : Nat), cnt s o (n + m) = cnt s o n + cnt s (o + n) m
  | 0, o, m => by simp [cnt]
  | n + 1, o, m => by
    rw [show n + 1 + m = (n + m) + 1 by omega]
    show (if s o then 1 else 0) + cnt s (o + 1) (n + m) = ((if s o then 1 else 0) + cnt s (o + 1) n) + cnt s (o + (n + 1)) m
    rw [cnt_add s n (o + 1) m, show o + 1 + n = o + (n + 1) by omega]
    omega
theorem cnt_le (s : Nat → Bool) : ∀ (n o : Nat), cnt s o n ≤ n
  | 0, _ => Nat.le_refl 0
  | n + 1, o => by
    unfold cnt
    have := cnt_le s n (o + 1)
    split <;> omega
theorem cnt_zero {s : Nat → Bool} : ∀ (n o : Nat), cnt s o n = 0 ↔ ∀ q, o ≤ q → q < o + n → s q = false
  | 0, o => by
    simp only [cnt, true_iff]
    intro q h1 h2
    omega
  | n + 1, o => by
    unfold cnt
    constructor
    · intro h q h1 h2
      have ha : cnt s (o + 1) n = 0 := by omega
      by_cases hq : q = o
      · subst hq
        cases hs : s q with
        | false => rfl
        | true => simp [hs] at h
      · exact (cnt_zero n (o + 1)).mp ha q (by omega) (by omega)
    · intro h
      rw [(cnt_zero n (o + 1)).mpr fun q h1 h2 => h q (by omega) (by omega), h o (Nat.le_refl o) (by omega)]
      rfl
theorem cnt_mono {s t : Nat → Bool} : ∀ (n o : Nat), (∀ q, o ≤ q → q < o + n → s q = true → t q = true) → cnt s o n ≤ cnt t o n
  | 0, _, _ => Nat.le_refl 0
  | n + 1, o, h => by
    unfold cnt
    have h1 := cnt_mono n (o + 1) fun q h1 h2 => h q (by omega) (by omega)
    have h2 := h o (Nat.le_refl o) (by omega)
    cases hs : s o with
    | false => simp; omega
    | true => simp [h2 hs]; omega
/-- what comes to a set in two steps, comes in one of them -/
theorem cnt_or {s t u : Nat → Bool} : ∀ (n o : Nat), (∀ q, o ≤ q → q < o + n → s q = true → t q = true ∨ u q = true) → cnt s o n ≤ cnt t o n + cnt u o n
  | 0, _, _ => Nat.le_refl 0
  | n + 1, o, h => by
    unfold cnt
    have h1 := cnt_or n (o + 1) fun q h1 h2 => h q (by omega) (by omega)
    have h2 := h o (Nat.le_refl o) (by omega)
    cases hs : s o with
    | false => simp; omega
    | true =>
      rcases h2 hs with h3 | h3
      · simp [h3]; omega
      · simp [h3]; omega
theorem cnt_split {s t : Nat → Bool} : ∀ (n o : Nat), cnt s o n = cnt (fun q => s q && t q) o n + cnt (fun q => s q && !t q) o n
  | 0, _ => rfl
  | n + 1, o => by
    unfold cnt
    rw [cnt_split n (o + 1) (s := s) (t := t)]
    cases hs : s o <;> cases ht : t o <;> simp [hs, ht] <;> omega
theorem cnt_shift (s : Nat → Bool) : ∀ (n o d : Nat), cnt (fun q => s (d + q)) o n = cnt s (d + o) n
  | 0, _, _ => rfl
  | n + 1, o, d => by
    unfold cnt
    rw [cnt_shift s n (o + 1) d, show d + (o + 1) = d + o + 1 by omega]
theorem cs_at (g : Nat → Int32) (i : Nat) {b : Nat} (h : b < 8) : cs g (8 * i + b) = bt (g i) b := by
  unfold cs
  rw [show (8 * i + b) / 8 = i by omega, show (8 * i + b) % 8 = b by omega]
theorem cnt_byte (g : Nat → Int32) (i : Nat) : cnt (bt (g i)) 0 8 = cnt (cs g) (8 * i) 8 := by
  have e := cnt_shift (cs g) 8 0 (8 * i)
  rw [Nat.add_zero] at e
  rw [← e]
  exact cnt_congr 8 0 fun q _ h => (cs_at g i (by omega)).symm
/-- the code of record q in an item of form f -/
def cod (f q : Nat) : Int32 := ni (1000 * f + 100 * (q / 32) + 10 * (q / 8 % 4 + 1) + q % 8)
def cd (f nm ty v : Nat) : Int32 := ni (1000 * f + 100 * nm + 10 * ty + v)
theorem ni_div {a b : Nat} (ha : a < 2147483648) (hb : b < 2147483648) : ni a / ni b = ni (a / b) := (Int32.ofNat_div ha hb).symm
theorem ni_rem {a b : Nat} (ha : a < 2147483648) (hb : b < 2147483648) : zi_rem (ni a) (ni b) = ni (a % b) := by
  unfold zi_rem
  rw [ni_div ha hb, ni_mul, ni_sub (Nat.div_mul_le_self a b)]
  congr 1
  rw [Nat.mul_comm]
  exact (Nat.sub_eq_of_eq_add (Nat.mod_add_div a b).symm)
def pl (nm ty v : Nat) : Nat := 32 * nm + 8 * (ty - 1) + v
/-! sets, as functions to Bool: what the changes of an update do -/
def sPut (s : Nat → Bool) (p : Nat) : Nat → Bool := fun q => s q || decide (q = p)
def sDel (s : Nat → Bool) (p : Nat) : Nat → Bool := fun q => s q && !decide (q = p)
def sClr (s : Nat → Bool) (r : Nat) : Nat → Bool := fun q => s q && !decide (q / 8 = r)
def sAdd (s : Nat → Bool) (nm ty v : Nat) : Nat → Bool :=
  if ty ≠ 2 then (if cnt s (32 * nm + 8) 8 = 0 then sPut s (pl nm ty v) else s)
  else if nm ≠ 0 ∧ cnt s (32 * nm) 32 = cnt s (32 * nm + 8) 8 then sPut (sClr s (4 * nm + 1)) (pl nm 2 v) else s
def sClear (s : Nat → Bool) (nm ty : Nat) : Nat → Bool := if nm = 0 ∧ ty = 3 then s else sClr s (4 * nm + ty - 1)
def sWipe (s : Nat → Bool) (nm : Nat) : Nat → Bool := fun q => s q && !(decide (q / 32 = nm) && !decide (q / 8 = 2))
def sRem (s : Nat → Bool) (nm ty v : Nat) : Nat → Bool := if nm = 0 ∧ ty = 3 ∧ cnt s 16 8 = 1 then s else sDel s (pl nm ty v)
def chg (s : Nat → Bool) (f nm ty v : Nat) : Nat → Bool :=
  if f = 0 then sAdd s nm ty v else if f = 1 then sClear s nm ty else if f = 2 then sWipe s nm else sRem s nm ty v
def sEq (s t : Nat → Bool) : Prop := ∀ q, q < 256 → s q = t q
theorem sEq.rfl' (s : Nat → Bool) : sEq s s := fun _ _ => rfl
theorem sEq.symm {s t : Nat → Bool} (h : sEq s t) : sEq t s := fun q hq => (h q hq).symm
theorem sEq.trans {s t u : Nat → Bool} (h : sEq s t) (h1 : sEq t u) : sEq s u := fun q hq => (h q hq).trans (h1 q hq)
theorem sEq.cnt {s t : Nat → Bool} (h : sEq s t) {o n : Nat} (ho : o + n ≤ 256) : cnt s o n = cnt t o n := cnt_congr n o fun q _ h2 => h q (by omega)
/-- the records of a set in order, as items; and items written into a row of ints -/
def lst (s : Nat → Bool) (f : Nat) : Nat → Nat → List Int32
  | _, 0 => []
  | o, n + 1 => if s o then cod f o :: lst s f (o + 1) n else lst s f (o + 1) n
def wr : (Nat → Int32) → Nat → List Int32 → (Nat → Int32)
  | it, _, [] => it
  | it, c, x :: r => wr (upd it c x) (c + 1) r
theorem lst_len (s : Nat → Bool) (f : Nat) : ∀ (n o : Nat), (lst s f o n).length = cnt s o n
  | 0, _ => rfl
  | n + 1, o => by
    unfold lst cnt
    cases h : s o with
    | false => simp [lst_len s f n (o + 1)]
    | true => simp [lst_len s f n (o + 1)]; omega
theorem lst_add (s : Nat → Bool) (f : Nat) : ∀ (n o m : Nat), lst s f o (n + m) = lst s f o n ++ lst s f (o + n) m
  | 0, o, m => by simp [lst]
  | n + 1, o, m => by
    rw [show n + 1 + m = (n + m) + 1 by omega]
    show (if s o then cod f o :: lst s f (o + 1) (n + m) else lst s f (o + 1) (n + m)) = (if s o then cod f o :: lst s f (o + 1) n else lst s f (o + 1) n) ++ lst s f (o + (n + 1)) m
    rw [lst_add s f n (o + 1) m, show o + 1 + n = o + (n + 1) by omega]
    cases h : s o <;> simp
theorem lst_congr {s t : Nat → Bool} (f : Nat) : ∀ (n o : Nat), (∀ q, o ≤ q → q < o + n → s q = t q) → lst s f o n = lst t f o n
  | 0, _, _ => rfl
  | n + 1, o, h => by
    unfold lst
    rw [h o (Nat.le_refl o) (by omega), lst_congr f n (o + 1) fun q h1 h2 => h q (by omega) (by omega)]
theorem wr_app : ∀ (l1 l2 : List Int32) (it : Nat → Int32) (c : Nat), wr it c (l1 ++ l2) = wr (wr it c l1) (c + l1.length) l2
  | [], l2, it, c => by simp [wr]
  | x :: r, l2, it, c => by
    rw [List.cons_append]
    unfold wr
    rw [wr_app r l2 (upd it c x) (c + 1), List.length_cons, show c + 1 + r.length = c + (r.length + 1) by omega]
    cases l2 <;> rfl
theorem wr_lo : ∀ (l : List Int32) (it : Nat → Int32) (c j : Nat), j < c → wr it c l j = it j
  | [], _, _, _, _ => rfl
  | x :: r, it, c, j, h => by
    unfold wr
    rw [wr_lo r _ _ _ (by omega)]
    exact if_neg (by omega)
theorem wr_get : ∀ (l : List Int32) (it : Nat → Int32) (c j : Nat) (x : Int32), l[j]? = some x → wr it c l (c + j) = x
  | [], _, _, j, x, h => by simp at h
  | y :: r, it, c, 0, x, h => by
    unfold wr
    rw [Nat.add_zero, wr_lo r _ _ _ (by omega)]
    simp at h
    rw [← h]
    exact if_pos rfl
  | y :: r, it, c, j + 1, x, h => by
    unfold wr
    rw [show c + (j + 1) = c + 1 + j by omega]
    exact wr_get r _ _ j x (by simpa using h)
theorem cnt_pos {s : Nat → Bool} {n o p : Nat} (h1 : o ≤ p) (h2 : p < o + n) (h : s p = true) : 1 ≤ cnt s o n := by
  cases Nat.eq_zero_or_pos (cnt s o n) with
  | inl h0 => rw [(cnt_zero n o).mp h0 p h1 h2] at h; cases h
  | inr h0 => exact h0
theorem cnt_two {s : Nat → Bool} {n o p q : Nat} (h1 : o ≤ p) (h2 : p < o + n) (h3 : o ≤ q) (h4 : q < o + n) (hpq : p ≠ q) (hp : s p = true) (hq : s q = true) : 2 ≤ cnt s o n := by
  have key : ∀ p q : Nat, o ≤ p → p < q → q < o + n → s p = true → s q = true → 2 ≤ cnt s o n := by
    intro p q h1 h2 h3 hp hq
    have e := cnt_add s (p + 1 - o) o (o + n - (p + 1))
    rw [show p + 1 - o + (o + n - (p + 1)) = n by omega, show o + (p + 1 - o) = p + 1 by omega] at e
    have e1 := cnt_pos (n := p + 1 - o) h1 (by omega) hp
    have e2 := cnt_pos (o := p + 1) (n := o + n - (p + 1)) (p := q) (by omega) (by omega) hq
    omega
  by_cases h : p < q
  · exact key p q h1 h h4 hp hq
  · exact key q p h3 (by omega) h2 hq hp
