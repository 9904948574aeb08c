/-! the class's block: 212 cells behind its object's address -/
def shC (k : Nat) : zl_S :=
  if k < 8 then (match k with
    | 0 => .inl (8, [some 1, some 2, some 3, some 6, some 169, some 168, none])
    | 1 => .inr (.inl (0, 3))
    | 2 => .inr (.inl (1, 3))
    | 3 => .inl (0, [some 4, some 5, none, none])
    | 4 => .inr (.inl (0, 4))
    | 5 => .inr (.inl (0, 4))
    | 6 => .inl (7, [some 7, none])
    | _ => .inr (.inr (3, 80)))
  else if k < 168 then (if (k - 8) % 2 = 0 then .inl (3, [some (k + 1), none, none, none, none, none, none, none, none, none]) else .inr (.inl (0, 4)))
  else if k < 176 then (match k with
    | 168 => .inr (.inr (4, 2))
    | 169 => .inl (4, [some 170, some 172, some 174, some 201, none, none, none, none, none])
    | 170 => .inl (5, [some 171])
    | 171 => .inr (.inl (0, 32))
    | 172 => .inl (5, [some 173])
    | 173 => .inr (.inl (0, 32))
    | 174 => .inl (2, [some 175, none])
    | _ => .inr (.inr (2, 5)))
  else if k < 201 then (if (k - 176) % 5 = 0 then .inl (1, [some (k + 1), some (k + 3), none, none]) else if (k - 176) % 5 = 1 then .inl (5, [some (k + 1)]) else if (k - 176) % 5 = 3 then .inl (5, [some (k + 1)]) else .inr (.inl (0, 32)))
  else if k = 201 then .inr (.inl (0, 112))
  else if (k - 202) % 5 = 0 then .inl (6, [none, none, none, none, some (k + 1), some (k + 3), none, none, none, none, none, none, none]) else if (k - 202) % 5 = 1 then .inl (5, [some (k + 1)]) else if (k - 202) % 5 = 3 then .inl (5, [some (k + 1)]) else .inr (.inl (0, 32))
/-- M: the cells at fixed places; F, I: the messages' fields and items; J, G, K: the entries' fields, gone, come -/
def mC (M F I J G K : Nat → Nat → Int32) : Nat → Nat → Int32 := fun k =>
  if 8 ≤ k ∧ k < 168 then (if (k - 8) % 2 = 0 then F ((k - 8) / 2) else I ((k - 8) / 2))
  else if 176 ≤ k ∧ k < 201 then (if (k - 176) % 5 = 0 then J ((k - 176) / 5) else if (k - 176) % 5 = 2 then G ((k - 176) / 5) else if (k - 176) % 5 = 4 then K ((k - 176) / 5) else M k)
  else M k
/-- w, e: which message, which entry, lies in a place of the rows -/
def pC (w e : Nat → Nat) : Nat → Nat → Nat := fun k i => if k = 7 then 8 + 2 * w i else if k = 175 then 176 + 5 * e i else if k = 168 then 202 + 5 * i else 0
def zC (A : Nat) (X : zh_T) (M F I J G K : Nat → Nat → Int32) (w e : Nat → Nat) : zh_T := zl shC 212 A X (mC M F I J G K) (pC w e)
def fixd (k : Nat) : Prop := ¬ (8 ≤ k ∧ k < 168) ∧ ¬ (176 ≤ k ∧ k < 201)
section ZCLS
variable {A : Nat} {X : zh_T} {M F I J G K : Nat → Nat → Int32} {w e : Nat → Nat}
theorem mC_fix {k : Nat} (h : fixd k) : mC M F I J G K k = M k := by
  unfold mC
  rw [if_neg h.1, if_neg h.2]
theorem mC_F {x : Nat} (h : x < 80) : mC M F I J G K (8 + 2 * x) = F x := by
  unfold mC
  rw [if_pos (by omega), if_pos (by omega), show (8 + 2 * x - 8) / 2 = x by omega]
theorem mC_I {x : Nat} (h : x < 80) : mC M F I J G K (8 + 2 * x + 1) = I x := by
  unfold mC
  rw [if_pos (by omega), if_neg (by omega), show (8 + 2 * x + 1 - 8) / 2 = x by omega]
theorem mC_J {x : Nat} (h : x < 5) : mC M F I J G K (176 + 5 * x) = J x := by
  unfold mC
  rw [if_neg (by omega), if_pos (by omega), if_pos (by omega), show (176 + 5 * x - 176) / 5 = x by omega]
theorem mC_G {x : Nat} (h : x < 5) : mC M F I J G K (176 + 5 * x + 1 + 1) = G x := by
  unfold mC
  rw [if_neg (by omega), if_pos (by omega), if_neg (by omega), if_pos (by omega), show (176 + 5 * x + 1 + 1 - 176) / 5 = x by omega]
theorem mC_K {x : Nat} (h : x < 5) : mC M F I J G K (176 + 5 * x + 3 + 1) = K x := by
  unfold mC
  rw [if_neg (by omega), if_pos (by omega), if_neg (by omega), if_neg (by omega), if_pos (by omega), show (176 + 5 * x + 3 + 1 - 176) / 5 = x by omega]
theorem zu_fix {k : Nat} (h : fixd k) (g : Nat → Int32) : zu (mC M F I J G K) k g = mC (zu M k g) F I J G K := by
  funext i
  by_cases hi : i = k
  · subst hi
    rw [zu_same, mC_fix h, zu_same]
  · rw [zu_ne _ hi]
    unfold mC
    rw [zu_ne _ hi]
theorem zu_F {x : Nat} (h : x < 80) (g : Nat → Int32) : zu (mC M F I J G K) (8 + 2 * x) g = mC M (zu F x g) I J G K := by
  funext i
  by_cases hi : i = 8 + 2 * x
  · subst hi
    rw [zu_same, mC_F h, zu_same]
  · rw [zu_ne _ hi]
    unfold mC
    by_cases h1 : 8 ≤ i ∧ i < 168
    · by_cases h2 : (i - 8) % 2 = 0
      · rw [if_pos h1, if_pos h1, if_pos h2, if_pos h2, zu_ne _ (show (i - 8) / 2 ≠ x by omega)]
      · rw [if_pos h1, if_pos h1, if_neg h2, if_neg h2]
    · rw [if_neg h1, if_neg h1]
theorem zu_I {x : Nat} (h : x < 80) (g : Nat → Int32) : zu (mC M F I J G K) (8 + 2 * x + 1) g = mC M F (zu I x g) J G K := by
  funext i
  by_cases hi : i = 8 + 2 * x + 1
  · subst hi
    rw [zu_same, mC_I h, zu_same]
  · rw [zu_ne _ hi]
    unfold mC
    by_cases h1 : 8 ≤ i ∧ i < 168
    · by_cases h2 : (i - 8) % 2 = 0
      · rw [if_pos h1, if_pos h1, if_pos h2, if_pos h2]
      · rw [if_pos h1, if_pos h1, if_neg h2, if_neg h2, zu_ne _ (show (i - 8) / 2 ≠ x by omega)]
    · rw [if_neg h1, if_neg h1]
theorem zu_J {x : Nat} (h : x < 5) (g : Nat → Int32) : zu (mC M F I J G K) (176 + 5 * x) g = mC M F I (zu J x g) G K := by
  funext i
  by_cases hi : i = 176 + 5 * x
  · subst hi
    rw [zu_same, mC_J h, zu_same]
  · rw [zu_ne _ hi]
    unfold mC
    by_cases h1 : 8 ≤ i ∧ i < 168
    · rw [if_pos h1, if_pos h1]
    · rw [if_neg h1, if_neg h1]
      by_cases h2 : 176 ≤ i ∧ i < 201
      · rw [if_pos h2, if_pos h2]
        by_cases h3 : (i - 176) % 5 = 0
        · rw [if_pos h3, if_pos h3, zu_ne _ (show (i - 176) / 5 ≠ x by omega)]
        · rw [if_neg h3, if_neg h3]
      · rw [if_neg h2, if_neg h2]
theorem zu_G {x : Nat} (h : x < 5) (g : Nat → Int32) : zu (mC M F I J G K) (176 + 5 * x + 1 + 1) g = mC M F I J (zu G x g) K := by
  funext i
  by_cases hi : i = 176 + 5 * x + 1 + 1
  · subst hi
    rw [zu_same, mC_G h, zu_same]
  · rw [zu_ne _ hi]
    unfold mC
    by_cases h1 : 8 ≤ i ∧ i < 168
    · rw [if_pos h1, if_pos h1]
    · rw [if_neg h1, if_neg h1]
      by_cases h2 : 176 ≤ i ∧ i < 201
      · rw [if_pos h2, if_pos h2]
        by_cases h3 : (i - 176) % 5 = 0
        · rw [if_pos h3, if_pos h3]
        · rw [if_neg h3, if_neg h3]
          by_cases h4 : (i - 176) % 5 = 2
          · rw [if_pos h4, if_pos h4, zu_ne _ (show (i - 176) / 5 ≠ x by omega)]
          · rw [if_neg h4, if_neg h4]
      · rw [if_neg h2, if_neg h2]
theorem zu_K {x : Nat} (h : x < 5) (g : Nat → Int32) : zu (mC M F I J G K) (176 + 5 * x + 3 + 1) g = mC M F I J G (zu K x g) := by
  funext i
  by_cases hi : i = 176 + 5 * x + 3 + 1
  · subst hi
    rw [zu_same, mC_K h, zu_same]
  · rw [zu_ne _ hi]
    unfold mC
    by_cases h1 : 8 ≤ i ∧ i < 168
    · rw [if_pos h1, if_pos h1]
    · rw [if_neg h1, if_neg h1]
      by_cases h2 : 176 ≤ i ∧ i < 201
      · rw [if_pos h2, if_pos h2]
        by_cases h3 : (i - 176) % 5 = 0
        · rw [if_pos h3, if_pos h3]
        · rw [if_neg h3, if_neg h3]
          by_cases h4 : (i - 176) % 5 = 2
          · rw [if_pos h4, if_pos h4]
          · rw [if_neg h4, if_neg h4]
            by_cases h5 : (i - 176) % 5 = 4
            · rw [if_pos h5, if_pos h5, zu_ne _ (show (i - 176) / 5 ≠ x by omega)]
            · rw [if_neg h5, if_neg h5]
      · rw [if_neg h2, if_neg h2]
theorem shC_F {x : Nat} (h : x < 80) : shC (8 + 2 * x) = .inl (3, [some (8 + 2 * x + 1), none, none, none, none, none, none, none, none, none]) := by
  unfold shC
  rw [if_neg (by omega), if_pos (by omega), if_pos (by omega)]
theorem shC_I {x : Nat} (h : x < 80) : shC (8 + 2 * x + 1) = .inr (.inl (0, 4)) := by
  unfold shC
  rw [if_neg (by omega), if_pos (by omega), if_neg (by omega)]
theorem shC_J {x : Nat} (h : x < 5) : shC (176 + 5 * x) = .inl (1, [some (176 + 5 * x + 1), some (176 + 5 * x + 3), none, none]) := by
  unfold shC
  rw [if_neg (by omega), if_neg (by omega), if_neg (by omega), if_pos (by omega), if_pos (by omega)]
theorem shC_G {x : Nat} (h : x < 5) : zrec shC 212 (176 + 5 * x + 1) := by
  refine ⟨by omega, ?_, ?_⟩
  · unfold shC
    rw [if_neg (by omega), if_neg (by omega), if_neg (by omega), if_pos (by omega), if_neg (by omega), if_pos (by omega)]
  · unfold shC
    rw [if_neg (by omega), if_neg (by omega), if_neg (by omega), if_pos (by omega), if_neg (by omega), if_neg (by omega), if_neg (by omega)]
theorem shC_K {x : Nat} (h : x < 5) : zrec shC 212 (176 + 5 * x + 3) := by
  refine ⟨by omega, ?_, ?_⟩
  · unfold shC
    rw [if_neg (by omega), if_neg (by omega), if_neg (by omega), if_pos (by omega), if_neg (by omega), if_neg (by omega), if_pos (by omega)]
  · unfold shC
    rw [if_neg (by omega), if_neg (by omega), if_neg (by omega), if_pos (by omega), if_neg (by omega), if_neg (by omega), if_neg (by omega)]
theorem C_gi {k ci j : Nat} {fl : List (Option Nat)} (h : k < 212) (hf : fixd k) (hs : shC k = .inl (ci, fl)) (hj : fl[j]? = some none) : zgi (zC A X M F I J G K w e) (A + k) ci j = some (M k j) := by
  rw [zC, zl_gi h hs hj, mC_fix hf]
theorem C_gr {k ci j d : Nat} {fl : List (Option Nat)} (h : k < 212) (hs : shC k = .inl (ci, fl)) (hj : fl[j]? = some (some d)) : zgr (zC A X M F I J G K w e) (A + k) ci j = some (A + d) := by
  rw [zC, zl_gr h hs hj]
theorem C_p {k ci j : Nat} {fl : List (Option Nat)} {v : Int32} (h : k < 212) (hf : fixd k) (hs : shC k = .inl (ci, fl)) (hj : fl[j]? = some none) : zp (zC A X M F I J G K w e) (A + k) ci j (.int v) = some (zC A X (zu M k (upd (M k) j v)) F I J G K w e) := by
  rw [zC, zl_p h hs hj, zu_fix hf, mC_fix hf, zC]
theorem C_pz {k ci j : Nat} {fl : List (Option Nat)} {v : Int32} (h : k < 212) (hf : fixd k) (hs : shC k = .inl (ci, fl)) (hj : fl[j]? = some none) (hv : v = 0 ∨ v = 1) : zpz (zC A X M F I J G K w e) (A + k) ci j v = some (zC A X (zu M k (upd (M k) j v)) F I J G K w e) := by
  rw [zC, zl_pz h hs hj hv, zu_fix hf, mC_fix hf, zC]
theorem C_ai {k i len : Nat} (h : k < 212) (hf : fixd k) (hs : shC k = .inr (.inl (0, len))) (hi : i < len) (hl : len ≤ 65536) : zai (zC A X M F I J G K w e) (A + k) (ni i) = some (M k i) := by
  rw [zC, zl_ai h hs hi hl, mC_fix hf]
theorem C_az {k i len : Nat} (h : k < 212) (hf : fixd k) (hs : shC k = .inr (.inl (1, len))) (hi : i < len) (hl : len ≤ 65536) : zaz (zC A X M F I J G K w e) (A + k) (ni i) = some (M k i) := by
  rw [zC, zl_az h hs hi hl, mC_fix hf]
theorem C_si {k i len : Nat} {v : Int32} (h : k < 212) (hf : fixd k) (hs : shC k = .inr (.inl (0, len))) (hi : i < len) (hl : len ≤ 65536) : zsi (zC A X M F I J G K w e) (A + k) (ni i) v = some (zC A X (zu M k (upd (M k) i v)) F I J G K w e) := by
  rw [zC, zl_si h hs hi hl, zu_fix hf, mC_fix hf, zC]
theorem C_sz {k i len : Nat} {v : Int32} (h : k < 212) (hf : fixd k) (hs : shC k = .inr (.inl (1, len))) (hi : i < len) (hl : len ≤ 65536) (hv : v = 0 ∨ v = 1) : zsz (zC A X M F I J G K w e) (A + k) (ni i) v = some (zC A X (zu M k (upd (M k) i v)) F I J G K w e) := by
  rw [zC, zl_sz h hs hi hl hv, zu_fix hf, mC_fix hf, zC]
/-! messages -/
theorem m_lt {x : Nat} (h : x < 80) : 8 + 2 * x < 212 := by omega
theorem m_gi {x j : Nat} (h : x < 80) (hj : ([some (8 + 2 * x + 1), none, none, none, none, none, none, none, none, none] : List (Option Nat))[j]? = some none) : zgi (zC A X M F I J G K w e) (A + (8 + 2 * x)) 3 j = some (F x j) := by
  rw [zC, zl_gi (m_lt h) (shC_F h) hj, mC_F h]
theorem m_ck {x : Nat} (h : x < 80) : zck (zC A X M F I J G K w e) (A + (8 + 2 * x)) 3 = some () := zl_ck (m_lt h) (shC_F h)
theorem m_gr {x : Nat} (h : x < 80) : zgr (zC A X M F I J G K w e) (A + (8 + 2 * x)) 3 0 = some (A + (8 + 2 * x + 1)) := zl_gr (m_lt h) (shC_F h) rfl
theorem m_p {x j : Nat} {v : Int32} (h : x < 80) (hj : ([some (8 + 2 * x + 1), none, none, none, none, none, none, none, none, none] : List (Option Nat))[j]? = some none) : zp (zC A X M F I J G K w e) (A + (8 + 2 * x)) 3 j (.int v) = some (zC A X M (zu F x (upd (F x) j v)) I J G K w e) := by
  rw [zC, zl_p (m_lt h) (shC_F h) hj, zu_F h, mC_F h, zC]
theorem m_pz {x j : Nat} {v : Int32} (h : x < 80) (hj : ([some (8 + 2 * x + 1), none, none, none, none, none, none, none, none, none] : List (Option Nat))[j]? = some none) (hv : v = 0 ∨ v = 1) : zpz (zC A X M F I J G K w e) (A + (8 + 2 * x)) 3 j v = some (zC A X M (zu F x (upd (F x) j v)) I J G K w e) := by
  rw [zC, zl_pz (m_lt h) (shC_F h) hj hv, zu_F h, mC_F h, zC]
theorem m_ai {x i : Nat} (h : x < 80) (hi : i < 4) : zai (zC A X M F I J G K w e) (A + (8 + 2 * x + 1)) (ni i) = some (I x i) := by
  rw [zC, zl_ai (by omega) (shC_I h) hi (by decide), mC_I h]
theorem m_si {x i : Nat} {v : Int32} (h : x < 80) (hi : i < 4) : zsi (zC A X M F I J G K w e) (A + (8 + 2 * x + 1)) (ni i) v = some (zC A X M F (zu I x (upd (I x) i v)) J G K w e) := by
  rw [zC, zl_si (by omega) (shC_I h) hi (by decide), zu_I h, mC_I h, zC]
theorem w_ar {i : Nat} (h : i < 80) : zar (zC A X M F I J G K w e) 3 (A + 7) (ni i) = some (A + (8 + 2 * w i)) := by
  rw [zC, zl_ar (k := 7) (len := 80) (by decide) rfl h (by decide)]
  rfl
theorem w_ln : zln (zC A X M F I J G K w e) 3 (A + 7) = some (ni 80) := zl_lnr (k := 7) (by decide) rfl
theorem pC_w (g : Nat → Nat) : zuP (pC w e) 7 (fun i => 8 + 2 * g i) = pC g e := by
  funext k
  unfold zuP pC
  by_cases h : k = 7
  · funext i
    rw [if_pos h, if_pos h]
  · funext i
    rw [if_neg h, if_neg h, if_neg h]
theorem w_sr {i x : Nat} (h : i < 80) (hx : x < 80) : zsr (zC A X M F I J G K w e) 3 3 (A + 7) (ni i) (A + (8 + 2 * x)) = some (zC A X M F I J G K (va_up w i x) e) := by
  have e1 : va_up (pC w e 7) i (8 + 2 * x) = fun j => 8 + 2 * va_up w i x j := by
    funext j
    unfold va_up
    by_cases hj : j = i
    · rw [if_pos hj, if_pos hj]
    · rw [if_neg hj, if_neg hj]
      rfl
  rw [zC, zl_sr (k := 7) (len := 80) (by decide) rfl h (by decide) (m_lt hx) (shC_F hx), zC, e1, pC_w]
/-! entries -/
theorem e_gi {x j : Nat} (h : x < 5) (hj : ([some (176 + 5 * x + 1), some (176 + 5 * x + 3), none, none] : List (Option Nat))[j]? = some none) : zgi (zC A X M F I J G K w e) (A + (176 + 5 * x)) 1 j = some (J x j) := by
  rw [zC, zl_gi (by omega) (shC_J h) hj, mC_J h]
theorem e_g0 {x : Nat} (h : x < 5) : zgr (zC A X M F I J G K w e) (A + (176 + 5 * x)) 1 0 = some (A + (176 + 5 * x + 1)) := zl_gr (by omega) (shC_J h) rfl
theorem e_g1 {x : Nat} (h : x < 5) : zgr (zC A X M F I J G K w e) (A + (176 + 5 * x)) 1 1 = some (A + (176 + 5 * x + 3)) := zl_gr (by omega) (shC_J h) rfl
theorem e_p {x j : Nat} {v : Int32} (h : x < 5) (hj : ([some (176 + 5 * x + 1), some (176 + 5 * x + 3), none, none] : List (Option Nat))[j]? = some none) : zp (zC A X M F I J G K w e) (A + (176 + 5 * x)) 1 j (.int v) = some (zC A X M F I (zu J x (upd (J x) j v)) G K w e) := by
  rw [zC, zl_p (by omega) (shC_J h) hj, zu_J h, mC_J h, zC]
theorem e_pz {x j : Nat} {v : Int32} (h : x < 5) (hj : ([some (176 + 5 * x + 1), some (176 + 5 * x + 3), none, none] : List (Option Nat))[j]? = some none) (hv : v = 0 ∨ v = 1) : zpz (zC A X M F I J G K w e) (A + (176 + 5 * x)) 1 j v = some (zC A X M F I (zu J x (upd (J x) j v)) G K w e) := by
  rw [zC, zl_pz (by omega) (shC_J h) hj hv, zu_J h, mC_J h, zC]
theorem e_ar {i : Nat} (h : i < 5) : zar (zC A X M F I J G K w e) 2 (A + 175) (ni i) = some (A + (176 + 5 * e i)) := by
  rw [zC, zl_ar (k := 175) (len := 5) (by decide) rfl h (by decide)]
  rfl
theorem e_ln : zln (zC A X M F I J G K w e) 2 (A + 175) = some (ni 5) := zl_lnr (k := 175) (by decide) rfl
theorem pC_e (g : Nat → Nat) : zuP (pC w e) 175 (fun i => 176 + 5 * g i) = pC w g := by
  funext k
  unfold zuP pC
  by_cases h : k = 175
  · funext i
    rw [if_pos h, if_neg (by omega), if_pos h]
  · funext i
    rw [if_neg h, if_neg h, if_neg h]
theorem e_sr {i x : Nat} (h : i < 5) (hx : x < 5) : zsr (zC A X M F I J G K w e) 2 1 (A + 175) (ni i) (A + (176 + 5 * x)) = some (zC A X M F I J G K w (va_up e i x)) := by
  have e1 : va_up (pC w e 175) i (176 + 5 * x) = fun j => 176 + 5 * va_up e i x j := by
    funext j
    unfold va_up
    by_cases hj : j = i
    · rw [if_pos hj, if_pos hj]
    · rw [if_neg hj, if_neg hj]
      rfl
  rw [zC, zl_sr (k := 175) (len := 5) (by decide) rfl h (by decide) (by omega) (shC_J hx), zC, e1, pC_e]
theorem x_ar0 : zar (zC A X M F I J G K w e) 4 (A + 168) (ni 0) = some (A + 202) := by
  rw [zC, zl_ar (k := 168) (len := 2) (by decide) rfl (by decide) (by decide)]
  rfl
theorem x_ar1 : zar (zC A X M F I J G K w e) 4 (A + 168) (ni 1) = some (A + 207) := by
  rw [zC, zl_ar (k := 168) (len := 2) (by decide) rfl (by decide) (by decide)]
  rfl
/-! the fixed cells, a row a field -/
theorem ck0 : zck (zC A X M F I J G K w e) (A) 8 = some () := zl_ck (k := 0) (by decide) rfl
theorem cr0_0 : zgr (zC A X M F I J G K w e) (A) 8 0 = some (A + 1) := C_gr (k := 0) (by decide) rfl rfl
theorem cr0_1 : zgr (zC A X M F I J G K w e) (A) 8 1 = some (A + 2) := C_gr (k := 0) (by decide) rfl rfl
theorem cr0_2 : zgr (zC A X M F I J G K w e) (A) 8 2 = some (A + 3) := C_gr (k := 0) (by decide) rfl rfl
theorem cr0_3 : zgr (zC A X M F I J G K w e) (A) 8 3 = some (A + 6) := C_gr (k := 0) (by decide) rfl rfl
theorem cr0_4 : zgr (zC A X M F I J G K w e) (A) 8 4 = some (A + 169) := C_gr (k := 0) (by decide) rfl rfl
theorem cr0_5 : zgr (zC A X M F I J G K w e) (A) 8 5 = some (A + 168) := C_gr (k := 0) (by decide) rfl rfl
theorem cg0_6 : zgi (zC A X M F I J G K w e) (A) 8 6 = some (M 0 6) := C_gi (k := 0) (by decide) ⟨by decide, by decide⟩ rfl rfl
theorem cp0_6 {v : Int32} : zp (zC A X M F I J G K w e) (A) 8 6 (.int v) = some (zC A X (zu M 0 (upd (M 0) 6 v)) F I J G K w e) := C_p (k := 0) (by decide) ⟨by decide, by decide⟩ rfl rfl
theorem ck3 : zck (zC A X M F I J G K w e) (A + 3) 0 = some () := zl_ck (k := 3) (by decide) rfl
theorem cr3_0 : zgr (zC A X M F I J G K w e) (A + 3) 0 0 = some (A + 4) := C_gr (k := 3) (by decide) rfl rfl
theorem cr3_1 : zgr (zC A X M F I J G K w e) (A + 3) 0 1 = some (A + 5) := C_gr (k := 3) (by decide) rfl rfl
theorem cg3_2 : zgi (zC A X M F I J G K w e) (A + 3) 0 2 = some (M 3 2) := C_gi (k := 3) (by decide) ⟨by decide, by decide⟩ rfl rfl
theorem cp3_2 {v : Int32} : zp (zC A X M F I J G K w e) (A + 3) 0 2 (.int v) = some (zC A X (zu M 3 (upd (M 3) 2 v)) F I J G K w e) := C_p (k := 3) (by decide) ⟨by decide, by decide⟩ rfl rfl
theorem cg3_3 : zgi (zC A X M F I J G K w e) (A + 3) 0 3 = some (M 3 3) := C_gi (k := 3) (by decide) ⟨by decide, by decide⟩ rfl rfl
theorem cp3_3 {v : Int32} : zp (zC A X M F I J G K w e) (A + 3) 0 3 (.int v) = some (zC A X (zu M 3 (upd (M 3) 3 v)) F I J G K w e) := C_p (k := 3) (by decide) ⟨by decide, by decide⟩ rfl rfl
theorem ck6 : zck (zC A X M F I J G K w e) (A + 6) 7 = some () := zl_ck (k := 6) (by decide) rfl
theorem cr6_0 : zgr (zC A X M F I J G K w e) (A + 6) 7 0 = some (A + 7) := C_gr (k := 6) (by decide) rfl rfl
theorem cg6_1 : zgi (zC A X M F I J G K w e) (A + 6) 7 1 = some (M 6 1) := C_gi (k := 6) (by decide) ⟨by decide, by decide⟩ rfl rfl
theorem cp6_1 {v : Int32} : zp (zC A X M F I J G K w e) (A + 6) 7 1 (.int v) = some (zC A X (zu M 6 (upd (M 6) 1 v)) F I J G K w e) := C_p (k := 6) (by decide) ⟨by decide, by decide⟩ rfl rfl
theorem ck169 : zck (zC A X M F I J G K w e) (A + 169) 4 = some () := zl_ck (k := 169) (by decide) rfl
theorem cr169_0 : zgr (zC A X M F I J G K w e) (A + 169) 4 0 = some (A + 170) := C_gr (k := 169) (by decide) rfl rfl
theorem cr169_1 : zgr (zC A X M F I J G K w e) (A + 169) 4 1 = some (A + 172) := C_gr (k := 169) (by decide) rfl rfl
theorem cr169_2 : zgr (zC A X M F I J G K w e) (A + 169) 4 2 = some (A + 174) := C_gr (k := 169) (by decide) rfl rfl
theorem cr169_3 : zgr (zC A X M F I J G K w e) (A + 169) 4 3 = some (A + 201) := C_gr (k := 169) (by decide) rfl rfl
theorem cg169_4 : zgi (zC A X M F I J G K w e) (A + 169) 4 4 = some (M 169 4) := C_gi (k := 169) (by decide) ⟨by decide, by decide⟩ rfl rfl
theorem cp169_4 {v : Int32} : zp (zC A X M F I J G K w e) (A + 169) 4 4 (.int v) = some (zC A X (zu M 169 (upd (M 169) 4 v)) F I J G K w e) := C_p (k := 169) (by decide) ⟨by decide, by decide⟩ rfl rfl
theorem cg169_5 : zgi (zC A X M F I J G K w e) (A + 169) 4 5 = some (M 169 5) := C_gi (k := 169) (by decide) ⟨by decide, by decide⟩ rfl rfl
theorem cz169_5 {v : Int32} (hv : v = 0 ∨ v = 1) : zpz (zC A X M F I J G K w e) (A + 169) 4 5 v = some (zC A X (zu M 169 (upd (M 169) 5 v)) F I J G K w e) := C_pz (k := 169) (by decide) ⟨by decide, by decide⟩ rfl rfl hv
theorem cg169_6 : zgi (zC A X M F I J G K w e) (A + 169) 4 6 = some (M 169 6) := C_gi (k := 169) (by decide) ⟨by decide, by decide⟩ rfl rfl
theorem cp169_6 {v : Int32} : zp (zC A X M F I J G K w e) (A + 169) 4 6 (.int v) = some (zC A X (zu M 169 (upd (M 169) 6 v)) F I J G K w e) := C_p (k := 169) (by decide) ⟨by decide, by decide⟩ rfl rfl
theorem cg169_7 : zgi (zC A X M F I J G K w e) (A + 169) 4 7 = some (M 169 7) := C_gi (k := 169) (by decide) ⟨by decide, by decide⟩ rfl rfl
theorem cp169_7 {v : Int32} : zp (zC A X M F I J G K w e) (A + 169) 4 7 (.int v) = some (zC A X (zu M 169 (upd (M 169) 7 v)) F I J G K w e) := C_p (k := 169) (by decide) ⟨by decide, by decide⟩ rfl rfl
theorem cg169_8 : zgi (zC A X M F I J G K w e) (A + 169) 4 8 = some (M 169 8) := C_gi (k := 169) (by decide) ⟨by decide, by decide⟩ rfl rfl
theorem cz169_8 {v : Int32} (hv : v = 0 ∨ v = 1) : zpz (zC A X M F I J G K w e) (A + 169) 4 8 v = some (zC A X (zu M 169 (upd (M 169) 8 v)) F I J G K w e) := C_pz (k := 169) (by decide) ⟨by decide, by decide⟩ rfl rfl hv
theorem ck174 : zck (zC A X M F I J G K w e) (A + 174) 2 = some () := zl_ck (k := 174) (by decide) rfl
theorem cr174_0 : zgr (zC A X M F I J G K w e) (A + 174) 2 0 = some (A + 175) := C_gr (k := 174) (by decide) rfl rfl
theorem cg174_1 : zgi (zC A X M F I J G K w e) (A + 174) 2 1 = some (M 174 1) := C_gi (k := 174) (by decide) ⟨by decide, by decide⟩ rfl rfl
theorem cp174_1 {v : Int32} : zp (zC A X M F I J G K w e) (A + 174) 2 1 (.int v) = some (zC A X (zu M 174 (upd (M 174) 1 v)) F I J G K w e) := C_p (k := 174) (by decide) ⟨by decide, by decide⟩ rfl rfl
theorem ck202 : zck (zC A X M F I J G K w e) (A + 202) 6 = some () := zl_ck (k := 202) (by decide) rfl
theorem cg202_0 : zgi (zC A X M F I J G K w e) (A + 202) 6 0 = some (M 202 0) := C_gi (k := 202) (by decide) ⟨by decide, by decide⟩ rfl rfl
theorem cp202_0 {v : Int32} : zp (zC A X M F I J G K w e) (A + 202) 6 0 (.int v) = some (zC A X (zu M 202 (upd (M 202) 0 v)) F I J G K w e) := C_p (k := 202) (by decide) ⟨by decide, by decide⟩ rfl rfl
theorem cg202_1 : zgi (zC A X M F I J G K w e) (A + 202) 6 1 = some (M 202 1) := C_gi (k := 202) (by decide) ⟨by decide, by decide⟩ rfl rfl
theorem cp202_1 {v : Int32} : zp (zC A X M F I J G K w e) (A + 202) 6 1 (.int v) = some (zC A X (zu M 202 (upd (M 202) 1 v)) F I J G K w e) := C_p (k := 202) (by decide) ⟨by decide, by decide⟩ rfl rfl
theorem cg202_2 : zgi (zC A X M F I J G K w e) (A + 202) 6 2 = some (M 202 2) := C_gi (k := 202) (by decide) ⟨by decide, by decide⟩ rfl rfl
theorem cp202_2 {v : Int32} : zp (zC A X M F I J G K w e) (A + 202) 6 2 (.int v) = some (zC A X (zu M 202 (upd (M 202) 2 v)) F I J G K w e) := C_p (k := 202) (by decide) ⟨by decide, by decide⟩ rfl rfl
theorem cg202_3 : zgi (zC A X M F I J G K w e) (A + 202) 6 3 = some (M 202 3) := C_gi (k := 202) (by decide) ⟨by decide, by decide⟩ rfl rfl
theorem cp202_3 {v : Int32} : zp (zC A X M F I J G K w e) (A + 202) 6 3 (.int v) = some (zC A X (zu M 202 (upd (M 202) 3 v)) F I J G K w e) := C_p (k := 202) (by decide) ⟨by decide, by decide⟩ rfl rfl
theorem cr202_4 : zgr (zC A X M F I J G K w e) (A + 202) 6 4 = some (A + 203) := C_gr (k := 202) (by decide) rfl rfl
theorem cr202_5 : zgr (zC A X M F I J G K w e) (A + 202) 6 5 = some (A + 205) := C_gr (k := 202) (by decide) rfl rfl
theorem cg202_6 : zgi (zC A X M F I J G K w e) (A + 202) 6 6 = some (M 202 6) := C_gi (k := 202) (by decide) ⟨by decide, by decide⟩ rfl rfl
theorem cz202_6 {v : Int32} (hv : v = 0 ∨ v = 1) : zpz (zC A X M F I J G K w e) (A + 202) 6 6 v = some (zC A X (zu M 202 (upd (M 202) 6 v)) F I J G K w e) := C_pz (k := 202) (by decide) ⟨by decide, by decide⟩ rfl rfl hv
theorem cg202_7 : zgi (zC A X M F I J G K w e) (A + 202) 6 7 = some (M 202 7) := C_gi (k := 202) (by decide) ⟨by decide, by decide⟩ rfl rfl
theorem cz202_7 {v : Int32} (hv : v = 0 ∨ v = 1) : zpz (zC A X M F I J G K w e) (A + 202) 6 7 v = some (zC A X (zu M 202 (upd (M 202) 7 v)) F I J G K w e) := C_pz (k := 202) (by decide) ⟨by decide, by decide⟩ rfl rfl hv
theorem cg202_8 : zgi (zC A X M F I J G K w e) (A + 202) 6 8 = some (M 202 8) := C_gi (k := 202) (by decide) ⟨by decide, by decide⟩ rfl rfl
theorem cp202_8 {v : Int32} : zp (zC A X M F I J G K w e) (A + 202) 6 8 (.int v) = some (zC A X (zu M 202 (upd (M 202) 8 v)) F I J G K w e) := C_p (k := 202) (by decide) ⟨by decide, by decide⟩ rfl rfl
theorem cg202_9 : zgi (zC A X M F I J G K w e) (A + 202) 6 9 = some (M 202 9) := C_gi (k := 202) (by decide) ⟨by decide, by decide⟩ rfl rfl
theorem cp202_9 {v : Int32} : zp (zC A X M F I J G K w e) (A + 202) 6 9 (.int v) = some (zC A X (zu M 202 (upd (M 202) 9 v)) F I J G K w e) := C_p (k := 202) (by decide) ⟨by decide, by decide⟩ rfl rfl
theorem cg202_10 : zgi (zC A X M F I J G K w e) (A + 202) 6 10 = some (M 202 10) := C_gi (k := 202) (by decide) ⟨by decide, by decide⟩ rfl rfl
theorem cp202_10 {v : Int32} : zp (zC A X M F I J G K w e) (A + 202) 6 10 (.int v) = some (zC A X (zu M 202 (upd (M 202) 10 v)) F I J G K w e) := C_p (k := 202) (by decide) ⟨by decide, by decide⟩ rfl rfl
theorem cg202_11 : zgi (zC A X M F I J G K w e) (A + 202) 6 11 = some (M 202 11) := C_gi (k := 202) (by decide) ⟨by decide, by decide⟩ rfl rfl
theorem cp202_11 {v : Int32} : zp (zC A X M F I J G K w e) (A + 202) 6 11 (.int v) = some (zC A X (zu M 202 (upd (M 202) 11 v)) F I J G K w e) := C_p (k := 202) (by decide) ⟨by decide, by decide⟩ rfl rfl
theorem cg202_12 : zgi (zC A X M F I J G K w e) (A + 202) 6 12 = some (M 202 12) := C_gi (k := 202) (by decide) ⟨by decide, by decide⟩ rfl rfl
theorem cp202_12 {v : Int32} : zp (zC A X M F I J G K w e) (A + 202) 6 12 (.int v) = some (zC A X (zu M 202 (upd (M 202) 12 v)) F I J G K w e) := C_p (k := 202) (by decide) ⟨by decide, by decide⟩ rfl rfl
theorem ck207 : zck (zC A X M F I J G K w e) (A + 207) 6 = some () := zl_ck (k := 207) (by decide) rfl
theorem cg207_0 : zgi (zC A X M F I J G K w e) (A + 207) 6 0 = some (M 207 0) := C_gi (k := 207) (by decide) ⟨by decide, by decide⟩ rfl rfl
theorem cp207_0 {v : Int32} : zp (zC A X M F I J G K w e) (A + 207) 6 0 (.int v) = some (zC A X (zu M 207 (upd (M 207) 0 v)) F I J G K w e) := C_p (k := 207) (by decide) ⟨by decide, by decide⟩ rfl rfl
theorem cg207_1 : zgi (zC A X M F I J G K w e) (A + 207) 6 1 = some (M 207 1) := C_gi (k := 207) (by decide) ⟨by decide, by decide⟩ rfl rfl
theorem cp207_1 {v : Int32} : zp (zC A X M F I J G K w e) (A + 207) 6 1 (.int v) = some (zC A X (zu M 207 (upd (M 207) 1 v)) F I J G K w e) := C_p (k := 207) (by decide) ⟨by decide, by decide⟩ rfl rfl
theorem cg207_2 : zgi (zC A X M F I J G K w e) (A + 207) 6 2 = some (M 207 2) := C_gi (k := 207) (by decide) ⟨by decide, by decide⟩ rfl rfl
theorem cp207_2 {v : Int32} : zp (zC A X M F I J G K w e) (A + 207) 6 2 (.int v) = some (zC A X (zu M 207 (upd (M 207) 2 v)) F I J G K w e) := C_p (k := 207) (by decide) ⟨by decide, by decide⟩ rfl rfl
theorem cg207_3 : zgi (zC A X M F I J G K w e) (A + 207) 6 3 = some (M 207 3) := C_gi (k := 207) (by decide) ⟨by decide, by decide⟩ rfl rfl
theorem cp207_3 {v : Int32} : zp (zC A X M F I J G K w e) (A + 207) 6 3 (.int v) = some (zC A X (zu M 207 (upd (M 207) 3 v)) F I J G K w e) := C_p (k := 207) (by decide) ⟨by decide, by decide⟩ rfl rfl
theorem cr207_4 : zgr (zC A X M F I J G K w e) (A + 207) 6 4 = some (A + 208) := C_gr (k := 207) (by decide) rfl rfl
theorem cr207_5 : zgr (zC A X M F I J G K w e) (A + 207) 6 5 = some (A + 210) := C_gr (k := 207) (by decide) rfl rfl
theorem cg207_6 : zgi (zC A X M F I J G K w e) (A + 207) 6 6 = some (M 207 6) := C_gi (k := 207) (by decide) ⟨by decide, by decide⟩ rfl rfl
theorem cz207_6 {v : Int32} (hv : v = 0 ∨ v = 1) : zpz (zC A X M F I J G K w e) (A + 207) 6 6 v = some (zC A X (zu M 207 (upd (M 207) 6 v)) F I J G K w e) := C_pz (k := 207) (by decide) ⟨by decide, by decide⟩ rfl rfl hv
theorem cg207_7 : zgi (zC A X M F I J G K w e) (A + 207) 6 7 = some (M 207 7) := C_gi (k := 207) (by decide) ⟨by decide, by decide⟩ rfl rfl
theorem cz207_7 {v : Int32} (hv : v = 0 ∨ v = 1) : zpz (zC A X M F I J G K w e) (A + 207) 6 7 v = some (zC A X (zu M 207 (upd (M 207) 7 v)) F I J G K w e) := C_pz (k := 207) (by decide) ⟨by decide, by decide⟩ rfl rfl hv
theorem cg207_8 : zgi (zC A X M F I J G K w e) (A + 207) 6 8 = some (M 207 8) := C_gi (k := 207) (by decide) ⟨by decide, by decide⟩ rfl rfl
theorem cp207_8 {v : Int32} : zp (zC A X M F I J G K w e) (A + 207) 6 8 (.int v) = some (zC A X (zu M 207 (upd (M 207) 8 v)) F I J G K w e) := C_p (k := 207) (by decide) ⟨by decide, by decide⟩ rfl rfl
theorem cg207_9 : zgi (zC A X M F I J G K w e) (A + 207) 6 9 = some (M 207 9) := C_gi (k := 207) (by decide) ⟨by decide, by decide⟩ rfl rfl
theorem cp207_9 {v : Int32} : zp (zC A X M F I J G K w e) (A + 207) 6 9 (.int v) = some (zC A X (zu M 207 (upd (M 207) 9 v)) F I J G K w e) := C_p (k := 207) (by decide) ⟨by decide, by decide⟩ rfl rfl
theorem cg207_10 : zgi (zC A X M F I J G K w e) (A + 207) 6 10 = some (M 207 10) := C_gi (k := 207) (by decide) ⟨by decide, by decide⟩ rfl rfl
theorem cp207_10 {v : Int32} : zp (zC A X M F I J G K w e) (A + 207) 6 10 (.int v) = some (zC A X (zu M 207 (upd (M 207) 10 v)) F I J G K w e) := C_p (k := 207) (by decide) ⟨by decide, by decide⟩ rfl rfl
theorem cg207_11 : zgi (zC A X M F I J G K w e) (A + 207) 6 11 = some (M 207 11) := C_gi (k := 207) (by decide) ⟨by decide, by decide⟩ rfl rfl
theorem cp207_11 {v : Int32} : zp (zC A X M F I J G K w e) (A + 207) 6 11 (.int v) = some (zC A X (zu M 207 (upd (M 207) 11 v)) F I J G K w e) := C_p (k := 207) (by decide) ⟨by decide, by decide⟩ rfl rfl
theorem cg207_12 : zgi (zC A X M F I J G K w e) (A + 207) 6 12 = some (M 207 12) := C_gi (k := 207) (by decide) ⟨by decide, by decide⟩ rfl rfl
theorem cp207_12 {v : Int32} : zp (zC A X M F I J G K w e) (A + 207) 6 12 (.int v) = some (zC A X (zu M 207 (upd (M 207) 12 v)) F I J G K w e) := C_p (k := 207) (by decide) ⟨by decide, by decide⟩ rfl rfl
theorem rec170 : zrec shC 212 170 := ⟨by decide, rfl, rfl⟩
theorem ck170 : zck (zC A X M F I J G K w e) (A + 170) 5 = some () := zl_ck (k := 170) (by decide) rfl
theorem fx170 : fixd (170 + 1) := ⟨by decide, by decide⟩
theorem rec172 : zrec shC 212 172 := ⟨by decide, rfl, rfl⟩
theorem ck172 : zck (zC A X M F I J G K w e) (A + 172) 5 = some () := zl_ck (k := 172) (by decide) rfl
theorem fx172 : fixd (172 + 1) := ⟨by decide, by decide⟩
theorem rec203 : zrec shC 212 203 := ⟨by decide, rfl, rfl⟩
theorem ck203 : zck (zC A X M F I J G K w e) (A + 203) 5 = some () := zl_ck (k := 203) (by decide) rfl
theorem fx203 : fixd (203 + 1) := ⟨by decide, by decide⟩
theorem rec205 : zrec shC 212 205 := ⟨by decide, rfl, rfl⟩
theorem ck205 : zck (zC A X M F I J G K w e) (A + 205) 5 = some () := zl_ck (k := 205) (by decide) rfl
theorem fx205 : fixd (205 + 1) := ⟨by decide, by decide⟩
theorem rec208 : zrec shC 212 208 := ⟨by decide, rfl, rfl⟩
theorem ck208 : zck (zC A X M F I J G K w e) (A + 208) 5 = some () := zl_ck (k := 208) (by decide) rfl
theorem fx208 : fixd (208 + 1) := ⟨by decide, by decide⟩
theorem rec210 : zrec shC 212 210 := ⟨by decide, rfl, rfl⟩
theorem ck210 : zck (zC A X M F I J G K w e) (A + 210) 5 = some () := zl_ck (k := 210) (by decide) rfl
theorem fx210 : fixd (210 + 1) := ⟨by decide, by decide⟩
end ZCLS
