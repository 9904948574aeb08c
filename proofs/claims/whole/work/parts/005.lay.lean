/-! the monad's steps, for simp -/
theorem zb1_some {α β : Type} (a : α) (g : α → Option β) : zb1 (some a) g = g a := rfl
theorem zb2_some {α β : Type} (a : α) (Y : zh_T) (g : α → zh_T → Option β) : zb2 (some (a, Y)) g = g a Y := rfl
theorem zbs_inl {α β γ : Type} (a : α) (h : α → Option γ) (g : β → Option γ) : zbs (some (.inl a)) h g = h a := rfl
theorem zbs_inr {α β γ : Type} (b : β) (h : α → Option γ) (g : β → Option γ) : zbs (some (.inr b)) h g = g b := rfl
theorem zbt_inl {α β γ : Type} (a : α) (Y : zh_T) (h : α → zh_T → Option γ) (g : β → zh_T → Option γ) : zbt (some (.inl (a, Y))) h g = h a Y := rfl
theorem zbt_inr {α β γ : Type} (b : β) (Y : zh_T) (h : α → zh_T → Option γ) (g : β → zh_T → Option γ) : zbt (some (.inr (b, Y))) h g = g b Y := rfl
theorem zbo_none {β : Type} (n : Option β) (g : Nat → Option β) : zbo none n g = n := rfl
theorem zbo_some {β : Type} (a : Nat) (n : Option β) (g : Nat → Option β) : zbo (some a) n g = g a := rfl
/-! A block of cells at A, A + 1, .. by a table of shapes: its numbers (M: cell, place), and where its rows of references lead (P). -/
abbrev zl_S : Type := (Nat × List (Option Nat)) ⊕ ((Nat × Nat) ⊕ (Nat × Nat))
def zl_f (A : Nat) (m : Nat → Int32) : Nat → List (Option Nat) → List Value
  | _, [] => []
  | j, none :: r => .int (m j) :: zl_f A m (j + 1) r
  | j, some d :: r => .ref (A + d) :: zl_f A m (j + 1) r
def zl_c (A : Nat) (s : zl_S) (m : Nat → Int32) (q : Nat → Nat) : zh_E := match s with
  | .inl o => .inr (o.1, zl_f A m 0 o.2)
  | .inr (.inl a) => .inl (a.1, a.2, .inl m)
  | .inr (.inr a) => .inl (a.1, a.2, .inr (.inr (.inr (.inr (fun i => if i < a.2 then some (A + q i) else none)))))
def zl (sh : Nat → zl_S) (n A : Nat) (X : zh_T) (M : Nat → Nat → Int32) (P : Nat → Nat → Nat) : zh_T :=
  (fun q => if A ≤ q ∧ q < A + n then some (zl_c A (sh (q - A)) (M (q - A)) (P (q - A))) else X.1 q, X.2)
def zu (M : Nat → Nat → Int32) (k : Nat) (g : Nat → Int32) : Nat → Nat → Int32 := fun i => if i = k then g else M i
def zuP (P : Nat → Nat → Nat) (k : Nat) (g : Nat → Nat) : Nat → Nat → Nat := fun i => if i = k then g else P i
/-- a number that isn't negative, as an int -/
def ni (n : Nat) : Int32 := Int32.ofNat n
theorem ni_to {n : Nat} (h : n < 2147483648) : (ni n).toNatClampNeg = n := Int32.toNatClampNeg_ofNat_of_lt h
theorem ni_lt {a b : Nat} (ha : a < 2147483648) (hb : b < 2147483648) : (ni a < ni b) ↔ a < b := Int32.ofNat_lt_iff_lt ha hb
theorem ni_le {a b : Nat} (ha : a < 2147483648) (hb : b < 2147483648) : (ni a ≤ ni b) ↔ a ≤ b := Int32.ofNat_le_iff_le ha hb
theorem ni_inj {a b : Nat} (ha : a < 2147483648) (hb : b < 2147483648) : (ni a = ni b) ↔ a = b := ⟨fun h => by rw [← ni_to ha, h, ni_to hb], fun h => by rw [h]⟩
theorem ni_add (a b : Nat) : ni a + ni b = ni (a + b) := (Int32.ofNat_add a b).symm
theorem ni_mul (a b : Nat) : ni a * ni b = ni (a * b) := (Int32.ofNat_mul a b).symm
theorem ni_sub {a b : Nat} (h : b ≤ a) : ni a - ni b = ni (a - b) := (Int32.ofNat_sub a b h).symm
theorem ni_succ (a : Nat) : ni a + 1 = ni (a + 1) := ni_add a 1
theorem ni_pred {a : Nat} (h : 1 ≤ a) : ni a - 1 = ni (a - 1) := ni_sub h
theorem ni_pred' (a : Nat) : ni (a + 1) + (-1) = ni a := by
  rw [← ni_add, Int32.add_assoc, show ni 1 + (-1) = 0 by decide, Int32.add_zero]
theorem ni_nonneg {a : Nat} (h : a < 2147483648) : ¬ ni a < 0 := by
  rw [show (0 : Int32) = ni 0 from rfl, ni_lt (b := 0) h (by decide)]
  exact Nat.not_lt_zero a
theorem ni_of {i : Int32} (h : 0 ≤ i) : i = ni i.toNatClampNeg := (Int32.ofNat_toNatClampNeg i h).symm
theorem ni_of' {i : Int32} (h : ¬ i < 0) : i = ni i.toNatClampNeg := ni_of (Int32.not_lt.mp h)
theorem ni_ok {i n : Nat} (h : i < n) (hn : n ≤ 65536) : ¬ (ni i < 0 ∨ n ≤ (ni i).toNatClampNeg) := by
  rw [ni_to (n := i) (by omega)]
  intro q
  rcases q with q | q
  · exact ni_nonneg (by omega) q
  · omega
section ZLAY
variable {sh : Nat → zl_S} {n A : Nat} {X : zh_T} {M : Nat → Nat → Int32} {P : Nat → Nat → Nat} {k : Nat}
theorem zl_at (h : k < n) : (zl sh n A X M P).1 (A + k) = some (zl_c A (sh k) (M k) (P k)) := by
  show (if A ≤ A + k ∧ A + k < A + n then some (zl_c A (sh (A + k - A)) (M (A + k - A)) (P (A + k - A))) else X.1 (A + k)) = some (zl_c A (sh k) (M k) (P k))
  rw [if_pos ⟨Nat.le_add_right A k, Nat.add_lt_add_left h A⟩, Nat.add_sub_cancel_left]
theorem zl_up {g : Nat → Int32} {e : zh_E} (h : k < n) (he : e = zl_c A (sh k) g (P k)) : zh_up (zl sh n A X M P) (A + k) e = zl sh n A X (zu M k g) P := by
  subst he
  refine Prod.ext ?_ rfl
  funext q
  show (if q = A + k then some (zl_c A (sh k) g (P k)) else if A ≤ q ∧ q < A + n then some (zl_c A (sh (q - A)) (M (q - A)) (P (q - A))) else X.1 q) = if A ≤ q ∧ q < A + n then some (zl_c A (sh (q - A)) ((zu M k g) (q - A)) (P (q - A))) else X.1 q
  by_cases hq : q = A + k
  · subst hq
    rw [if_pos rfl, if_pos ⟨Nat.le_add_right A k, Nat.add_lt_add_left h A⟩, Nat.add_sub_cancel_left]
    simp [zu]
  · rw [if_neg hq]
    by_cases hr : A ≤ q ∧ q < A + n
    · rw [if_pos hr, if_pos hr]
      have h1 : q - A ≠ k := by omega
      simp [zu, h1]
    · rw [if_neg hr, if_neg hr]
theorem zl_upP {g : Nat → Nat} {e : zh_E} (h : k < n) (he : e = zl_c A (sh k) (M k) g) : zh_up (zl sh n A X M P) (A + k) e = zl sh n A X M (zuP P k g) := by
  subst he
  refine Prod.ext ?_ rfl
  funext q
  show (if q = A + k then some (zl_c A (sh k) (M k) g) else if A ≤ q ∧ q < A + n then some (zl_c A (sh (q - A)) (M (q - A)) (P (q - A))) else X.1 q) = if A ≤ q ∧ q < A + n then some (zl_c A (sh (q - A)) (M (q - A)) ((zuP P k g) (q - A))) else X.1 q
  by_cases hq : q = A + k
  · subst hq
    rw [if_pos rfl, if_pos ⟨Nat.le_add_right A k, Nat.add_lt_add_left h A⟩, Nat.add_sub_cancel_left]
    simp [zuP]
  · rw [if_neg hq]
    by_cases hr : A ≤ q ∧ q < A + n
    · rw [if_pos hr, if_pos hr]
      have h1 : q - A ≠ k := by omega
      simp [zuP, h1]
    · rw [if_neg hr, if_neg hr]
def zl_v (A : Nat) (x : Int32) (o : Option Nat) : Value := match o with
  | none => .int x
  | some d => .ref (A + d)
theorem zl_f_get (m : Nat → Int32) : ∀ (fl : List (Option Nat)) (i j : Nat), (zl_f A m i fl)[j]? = (fl[j]?).map (zl_v A (m (i + j)))
  | [], i, j => by simp [zl_f]
  | none :: r, i, 0 => by simp [zl_f, zl_v]
  | some d :: r, i, 0 => by simp [zl_f, zl_v]
  | none :: r, i, j + 1 => by
    simp only [zl_f, List.getElem?_cons_succ]
    rw [zl_f_get m r (i + 1) j, show i + 1 + j = i + (j + 1) by omega]
  | some d :: r, i, j + 1 => by
    simp only [zl_f, List.getElem?_cons_succ]
    rw [zl_f_get m r (i + 1) j, show i + 1 + j = i + (j + 1) by omega]
theorem zl_f_len (m : Nat → Int32) : ∀ (fl : List (Option Nat)) (i : Nat), (zl_f A m i fl).length = fl.length
  | [], i => rfl
  | none :: r, i => by simp [zl_f, zl_f_len m r (i + 1)]
  | some d :: r, i => by simp [zl_f, zl_f_len m r (i + 1)]
theorem zl_f_set (m : Nat → Int32) (fl : List (Option Nat)) (j : Nat) (v : Int32) (h : fl[j]? = some none) : (zl_f A m 0 fl).set j (.int v) = zl_f A (upd m j v) 0 fl := by
  apply List.ext_getElem?
  intro p
  rw [List.getElem?_set, zl_f_get, zl_f_get, zl_f_len]
  by_cases hp : j = p
  · subst hp
    have hj : j < fl.length := (List.getElem?_eq_some_iff.mp h).1
    rw [if_pos rfl, if_pos hj, h]
    simp [upd, zl_v]
  · rw [if_neg hp]
    have h2 : ¬ 0 + p = j := by omega
    cases hf : fl[p]? with
    | none => rfl
    | some o => cases o with
      | none => simp [upd, zl_v, Ne.symm hp]
      | some d => rfl
theorem zl_g {ci j : Nat} {fl : List (Option Nat)} (h : k < n) (hs : sh k = .inl (ci, fl)) : zg (zl sh n A X M P) (A + k) ci j = (fl[j]?).map (zl_v A (M k j)) := by
  unfold zg
  rw [zl_at h, hs]
  show (if ci = ci then (zl_f A (M k) 0 fl)[j]? else none) = _
  rw [if_pos rfl, zl_f_get, Nat.zero_add]
theorem zl_gi {ci j : Nat} {fl : List (Option Nat)} (h : k < n) (hs : sh k = .inl (ci, fl)) (hj : fl[j]? = some none) : zgi (zl sh n A X M P) (A + k) ci j = some (M k j) := by
  unfold zgi
  rw [zl_g h hs, hj]
  rfl
theorem zl_gr {ci j d : Nat} {fl : List (Option Nat)} (h : k < n) (hs : sh k = .inl (ci, fl)) (hj : fl[j]? = some (some d)) : zgr (zl sh n A X M P) (A + k) ci j = some (A + d) := by
  unfold zgr
  rw [zl_g h hs, hj]
  rfl
theorem zl_ck {ci : Nat} {fl : List (Option Nat)} (h : k < n) (hs : sh k = .inl (ci, fl)) : zck (zl sh n A X M P) (A + k) ci = some () := by
  unfold zck
  rw [zl_at h, hs]
  show (if ci = ci then some () else none) = _
  rw [if_pos rfl]
theorem zl_p {ci j : Nat} {fl : List (Option Nat)} {v : Int32} (h : k < n) (hs : sh k = .inl (ci, fl)) (hj : fl[j]? = some none) : zp (zl sh n A X M P) (A + k) ci j (.int v) = some (zl sh n A X (zu M k (upd (M k) j v)) P) := by
  unfold zp
  rw [zl_at h, hs]
  show (if ci = ci ∧ j < (zl_f A (M k) 0 fl).length then some (zh_up (zl sh n A X M P) (A + k) (.inr (ci, (zl_f A (M k) 0 fl).set j (.int v)))) else none) = _
  rw [if_pos ⟨rfl, by rw [zl_f_len]; exact (List.getElem?_eq_some_iff.mp hj).1⟩, zl_up (g := upd (M k) j v) h]
  rw [hs, zl_f_set _ _ _ _ hj]
  rfl
theorem zl_pz {ci j : Nat} {fl : List (Option Nat)} {v : Int32} (h : k < n) (hs : sh k = .inl (ci, fl)) (hj : fl[j]? = some none) (hv : v = 0 ∨ v = 1) : zpz (zl sh n A X M P) (A + k) ci j v = some (zl sh n A X (zu M k (upd (M k) j v)) P) := by
  unfold zpz
  rw [if_pos hv, zl_p h hs hj]
theorem zl_ai {i len : Nat} (h : k < n) (hs : sh k = .inr (.inl (0, len))) (hi : i < len) (hl : len ≤ 65536) : zai (zl sh n A X M P) (A + k) (ni i) = some (M k i) := by
  unfold zai
  rw [zl_at h, hs]
  show (if ni i < 0 ∨ len ≤ (ni i).toNatClampNeg then none else some (M k (ni i).toNatClampNeg)) = _
  rw [if_neg (ni_ok hi hl), ni_to (n := i) (by omega)]
theorem zl_az {i len : Nat} (h : k < n) (hs : sh k = .inr (.inl (1, len))) (hi : i < len) (hl : len ≤ 65536) : zaz (zl sh n A X M P) (A + k) (ni i) = some (M k i) := by
  unfold zaz
  rw [zl_at h, hs]
  show (if ni i < 0 ∨ len ≤ (ni i).toNatClampNeg then none else some (M k (ni i).toNatClampNeg)) = _
  rw [if_neg (ni_ok hi hl), ni_to (n := i) (by omega)]
theorem zl_si {i len : Nat} {v : Int32} (h : k < n) (hs : sh k = .inr (.inl (0, len))) (hi : i < len) (hl : len ≤ 65536) : zsi (zl sh n A X M P) (A + k) (ni i) v = some (zl sh n A X (zu M k (upd (M k) i v)) P) := by
  unfold zsi
  rw [zl_at h, hs]
  show (if ni i < 0 ∨ len ≤ (ni i).toNatClampNeg then none else some (zh_up (zl sh n A X M P) (A + k) (.inl (0, len, .inl (upd (M k) (ni i).toNatClampNeg v))))) = _
  rw [if_neg (ni_ok hi hl), ni_to (n := i) (by omega), zl_up (g := upd (M k) i v) h]
  rw [hs]
  rfl
theorem zl_sz {i len : Nat} {v : Int32} (h : k < n) (hs : sh k = .inr (.inl (1, len))) (hi : i < len) (hl : len ≤ 65536) (hv : v = 0 ∨ v = 1) : zsz (zl sh n A X M P) (A + k) (ni i) v = some (zl sh n A X (zu M k (upd (M k) i v)) P) := by
  unfold zsz
  rw [zl_at h, hs]
  show (if ni i < 0 ∨ len ≤ (ni i).toNatClampNeg ∨ ¬ (v = 0 ∨ v = 1) then none else some (zh_up (zl sh n A X M P) (A + k) (.inl (1, len, .inl (upd (M k) (ni i).toNatClampNeg v))))) = _
  rw [if_neg (fun q => q.elim (fun z => ni_ok hi hl (Or.inl z)) fun z => z.elim (fun y => ni_ok hi hl (Or.inr y)) fun y => y hv), ni_to (n := i) (by omega), zl_up (g := upd (M k) i v) h]
  rw [hs]
  rfl
theorem zl_ln {t len : Nat} (h : k < n) (hs : sh k = .inr (.inl (t, len))) : zln (zl sh n A X M P) t (A + k) = some (ni len) := by
  unfold zln
  rw [zl_at h, hs]
  show (if t = t then some (Int32.ofNat len) else none) = _
  rw [if_pos rfl]
  rfl
theorem zl_lnr {t len : Nat} (h : k < n) (hs : sh k = .inr (.inr (t, len))) : zln (zl sh n A X M P) t (A + k) = some (ni len) := by
  unfold zln
  rw [zl_at h, hs]
  show (if t = t then some (Int32.ofNat len) else none) = _
  rw [if_pos rfl]
  rfl
theorem zl_ar {t i len : Nat} (h : k < n) (hs : sh k = .inr (.inr (t, len))) (hi : i < len) (hl : len ≤ 65536) : zar (zl sh n A X M P) t (A + k) (ni i) = some (A + P k i) := by
  have e : zaq (zl sh n A X M P) t (A + k) (ni i) = some (some (A + P k i)) := by
    unfold zaq
    rw [zl_at h, hs]
    show (if t ≠ t ∨ ni i < 0 ∨ len ≤ (ni i).toNatClampNeg then none else some (if (ni i).toNatClampNeg < len then some (A + P k (ni i).toNatClampNeg) else none)) = _
    rw [if_neg (fun q => q.elim (fun z => z rfl) fun z => ni_ok hi hl z), ni_to (n := i) (by omega), if_pos hi]
  unfold zar
  rw [e]
  rfl
theorem zl_sr {t ci i len d : Nat} {fl : List (Option Nat)} (h : k < n) (hs : sh k = .inr (.inr (t, len))) (hi : i < len) (hl : len ≤ 65536) (hd : d < n) (hsd : sh d = .inl (ci, fl)) : zsr (zl sh n A X M P) t ci (A + k) (ni i) (A + d) = some (zl sh n A X M (zuP P k (va_up (P k) i d))) := by
  unfold zsr
  rw [zl_ck hd hsd, zb1_some]
  rw [zl_at h, hs]
  show (if t ≠ t ∨ ni i < 0 ∨ len ≤ (ni i).toNatClampNeg then none else some (zh_up (zl sh n A X M P) (A + k) (.inl (t, len, .inr (.inr (.inr (.inr (va_up (fun j => if j < len then some (A + P k j) else none) (ni i).toNatClampNeg (some (A + d))))))))) ) = _
  rw [if_neg (fun q => q.elim (fun z => z rfl) fun z => ni_ok hi hl z), ni_to (n := i) (by omega), zl_upP (g := va_up (P k) i d) h]
  rw [hs]
  have e : va_up (fun j => if j < len then some (A + P k j) else none) i (some (A + d)) = fun j => if j < len then some (A + va_up (P k) i d j) else none := by
    funext j
    by_cases hj : j = i
    · simp [va_up, hj, hi]
    · simp [va_up, hj]
  rw [e]
  rfl
end ZLAY
/-- two blocks side by side -/
theorem zl_comm {sh1 sh2 : Nat → zl_S} {n1 n2 A1 A2 : Nat} {X : zh_T} {M1 M2 : Nat → Nat → Int32} {P1 P2 : Nat → Nat → Nat} (h : A1 + n1 ≤ A2) : zl sh1 n1 A1 (zl sh2 n2 A2 X M2 P2) M1 P1 = zl sh2 n2 A2 (zl sh1 n1 A1 X M1 P1) M2 P2 := by
  refine Prod.ext ?_ rfl
  funext q
  show (if A1 ≤ q ∧ q < A1 + n1 then some (zl_c A1 (sh1 (q - A1)) (M1 (q - A1)) (P1 (q - A1))) else if A2 ≤ q ∧ q < A2 + n2 then some (zl_c A2 (sh2 (q - A2)) (M2 (q - A2)) (P2 (q - A2))) else X.1 q)
    = if A2 ≤ q ∧ q < A2 + n2 then some (zl_c A2 (sh2 (q - A2)) (M2 (q - A2)) (P2 (q - A2))) else if A1 ≤ q ∧ q < A1 + n1 then some (zl_c A1 (sh1 (q - A1)) (M1 (q - A1)) (P1 (q - A1))) else X.1 q
  by_cases h1 : A1 ≤ q ∧ q < A1 + n1
  · rw [if_pos h1, if_neg (by omega), if_pos h1]
  · rw [if_neg h1, if_neg h1]
theorem zbz_01 {x : Int32} (h : x = 0 ∨ x = 1) : zbz x = some x := if_pos h
theorem zu_same (M : Nat → Nat → Int32) (k : Nat) (g : Nat → Int32) : zu M k g k = g := if_pos rfl
theorem zu_ne {M : Nat → Nat → Int32} {k i : Nat} (g : Nat → Int32) (h : i ≠ k) : zu M k g i = M i := if_neg h
theorem zu_zu (M : Nat → Nat → Int32) (k : Nat) (g g' : Nat → Int32) : zu (zu M k g) k g' = zu M k g' := by
  funext i
  by_cases h : i = k
  · simp [zu, h]
  · simp [zu, h]
theorem zu_id (M : Nat → Nat → Int32) (k : Nat) : zu M k (M k) = M := by
  funext i
  by_cases h : i = k
  · subst h
    simp [zu]
  · simp [zu, h]
/-! the script -/
def zsc (xs : Nat → Int32) (L : Nat) (i : Int32) : Option Int32 := if i < 0 ∨ L ≤ i.toNatClampNeg then none else some (xs i.toNatClampNeg)
theorem zsc_s {xs : Nat → Int32} {L : Nat} {i v : Int32} (h : zsc xs L i = some v) : vp_in i L ∧ xs i.toNatClampNeg = v := by
  unfold zsc at h
  split at h
  · cases h
  · rename_i hc
    cases h
    exact ⟨hc, rfl⟩
