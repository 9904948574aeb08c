/-! a block that grows at the heap's end: for constructors -/
def blk (c : Nat → zh_E) (n A : Nat) (X : zh_T) : zh_T := (fun q => if A ≤ q ∧ q < A + n then some (c (q - A)) else X.1 q, A + n)
def cu (c : Nat → zh_E) (k : Nat) (v : zh_E) : Nat → zh_E := fun i => if i = k then v else c i
section ZBLK
variable {c : Nat → zh_E} {n A k : Nat} {X : zh_T}
theorem blk_at (h : k < n) : (blk c n A X).1 (A + k) = some (c k) := by
  show (if A ≤ A + k ∧ A + k < A + n then some (c (A + k - A)) else X.1 (A + k)) = some (c k)
  rw [if_pos ⟨Nat.le_add_right A k, Nat.add_lt_add_left h A⟩, Nat.add_sub_cancel_left]
theorem blk_al (v : zh_E) : zh_al (blk c n A X) v = blk (cu c n v) (n + 1) A X := by
  refine Prod.ext ?_ (show A + n + 1 = A + (n + 1) by omega)
  funext q
  show (if q = A + n then some v else if A ≤ q ∧ q < A + n then some (c (q - A)) else X.1 q) = if A ≤ q ∧ q < A + (n + 1) then some (cu c n v (q - A)) else X.1 q
  by_cases h1 : q = A + n
  · rw [if_pos h1, if_pos (by omega)]
    unfold cu
    rw [if_pos (by omega)]
  · rw [if_neg h1]
    by_cases h2 : A ≤ q ∧ q < A + n
    · rw [if_pos h2, if_pos (by omega)]
      unfold cu
      rw [if_neg (by omega)]
    · rw [if_neg h2, if_neg (by omega)]
theorem blk_up (h : k < n) (v : zh_E) : zh_up (blk c n A X) (A + k) v = blk (cu c k v) n A X := by
  refine Prod.ext ?_ rfl
  funext q
  show (if q = A + k then some v else if A ≤ q ∧ q < A + n then some (c (q - A)) else X.1 q) = if A ≤ q ∧ q < A + n then some (cu c k v (q - A)) else X.1 q
  by_cases h1 : q = A + k
  · rw [if_pos h1, if_pos (by omega)]
    unfold cu
    rw [if_pos (by omega)]
  · rw [if_neg h1]
    by_cases h2 : A ≤ q ∧ q < A + n
    · rw [if_pos h2, if_pos h2]
      unfold cu
      rw [if_neg (by omega)]
    · rw [if_neg h2, if_neg h2]
theorem blk_new (X : zh_T) (v : zh_E) : zh_al X v = blk (fun _ => v) 1 X.2 X := by
  refine Prod.ext ?_ rfl
  funext q
  show (if q = X.2 then some v else X.1 q) = if X.2 ≤ q ∧ q < X.2 + 1 then some v else X.1 q
  by_cases h : q = X.2
  · rw [if_pos h, if_pos (by omega)]
  · rw [if_neg h, if_neg (by omega)]
theorem b_na (t len : Nat) : zna (blk c n A X) t len = some (A + n, blk (cu c n (.inl (t, len, .inl fun _ => 0))) (n + 1) A X) := by
  unfold zna
  rw [blk_al]
  rfl
theorem b_nq (t len : Nat) : znq (blk c n A X) t len = some (A + n, blk (cu c n (.inl (t, len, .inr (.inr (.inr (.inr fun _ => none)))))) (n + 1) A X) := by
  unfold znq
  rw [blk_al]
  rfl
theorem b_nw (ci : Nat) (fs : List Value) : znw (blk c n A X) ci fs = some (A + n, blk (cu c n (.inr (ci, fs))) (n + 1) A X) := by
  unfold znw
  rw [blk_al]
  rfl
theorem b_p {ci j : Nat} {fs : List Value} {v : Value} (h : k < n) (hc : c k = .inr (ci, fs)) (hj : j < fs.length) : zp (blk c n A X) (A + k) ci j v = some (blk (cu c k (.inr (ci, fs.set j v))) n A X) := by
  unfold zp
  rw [blk_at h, hc]
  show (if ci = ci ∧ j < fs.length then some (zh_up (blk c n A X) (A + k) (.inr (ci, fs.set j v))) else none) = _
  rw [if_pos ⟨rfl, hj⟩, blk_up h]
theorem b_pz {ci j : Nat} {fs : List Value} {v : Int32} (h : k < n) (hc : c k = .inr (ci, fs)) (hj : j < fs.length) (hv : v = 0 ∨ v = 1) : zpz (blk c n A X) (A + k) ci j v = some (blk (cu c k (.inr (ci, fs.set j (.int v)))) n A X) := by
  unfold zpz
  rw [if_pos hv, b_p h hc hj]
theorem b_gr {ci j d : Nat} {fs : List Value} (h : k < n) (hc : c k = .inr (ci, fs)) (hj : fs[j]? = some (.ref d)) : zgr (blk c n A X) (A + k) ci j = some d := by
  have e : zg (blk c n A X) (A + k) ci j = some (.ref d) := by
    unfold zg
    rw [blk_at h, hc]
    show (if ci = ci then fs[j]? else none) = _
    rw [if_pos rfl, hj]
  unfold zgr
  rw [e]
theorem b_gi {ci j : Nat} {x : Int32} {fs : List Value} (h : k < n) (hc : c k = .inr (ci, fs)) (hj : fs[j]? = some (.int x)) : zgi (blk c n A X) (A + k) ci j = some x := by
  have e : zg (blk c n A X) (A + k) ci j = some (.int x) := by
    unfold zg
    rw [blk_at h, hc]
    show (if ci = ci then fs[j]? else none) = _
    rw [if_pos rfl, hj]
  unfold zgi
  rw [e]
theorem b_ck {ci : Nat} {fs : List Value} (h : k < n) (hc : c k = .inr (ci, fs)) : zck (blk c n A X) (A + k) ci = some () := by
  unfold zck
  rw [blk_at h, hc]
  show (if ci = ci then some () else none) = _
  rw [if_pos rfl]
theorem b_ln {t : Nat} {x : vp_A} (h : k < n) (hc : c k = .inl (t, x)) : zln (blk c n A X) t (A + k) = some (ni x.1) := by
  unfold zln
  rw [blk_at h, hc]
  show (if t = t then some (Int32.ofNat x.1) else none) = _
  rw [if_pos rfl]
  rfl
theorem b_ai {i len : Nat} {f : Nat → Int32} (h : k < n) (hc : c k = .inl (0, len, .inl f)) (hi : i < len) (hl : len ≤ 65536) : zai (blk c n A X) (A + k) (ni i) = some (f i) := by
  unfold zai
  rw [blk_at h, hc]
  show (if ni i < 0 ∨ len ≤ (ni i).toNatClampNeg then none else some (f (ni i).toNatClampNeg)) = _
  rw [if_neg (ni_ok hi hl), ni_to (n := i) (by omega)]
theorem b_si {i len : Nat} {f : Nat → Int32} {v : Int32} (h : k < n) (hc : c k = .inl (0, len, .inl f)) (hi : i < len) (hl : len ≤ 65536) : zsi (blk c n A X) (A + k) (ni i) v = some (blk (cu c k (.inl (0, len, .inl (upd f i v)))) n A X) := by
  unfold zsi
  rw [blk_at h, hc]
  show (if ni i < 0 ∨ len ≤ (ni i).toNatClampNeg then none else some (zh_up (blk c n A X) (A + k) (.inl (0, len, .inl (upd f (ni i).toNatClampNeg v))))) = _
  rw [if_neg (ni_ok hi hl), ni_to (n := i) (by omega), blk_up h]
theorem b_sr {t ci i len d : Nat} {f : Nat → Option Nat} {fs : List Value} (h : k < n) (hc : c k = .inl (t, len, .inr (.inr (.inr (.inr f))))) (hi : i < len) (hl : len ≤ 65536) (hd : d < n) (hcd : c d = .inr (ci, fs)) : zsr (blk c n A X) t ci (A + k) (ni i) (A + d) = some (blk (cu c k (.inl (t, len, .inr (.inr (.inr (.inr (va_up f i (some (A + d)))))))) ) n A X) := by
  unfold zsr
  rw [b_ck hd hcd, zb1_some]
  rw [blk_at h, hc]
  show (if t ≠ t ∨ ni i < 0 ∨ len ≤ (ni i).toNatClampNeg then none else some (zh_up (blk c n A X) (A + k) (.inl (t, len, .inr (.inr (.inr (.inr (va_up f (ni i).toNatClampNeg (some (A + d)))))))))) = _
  rw [if_neg (fun q => q.elim (fun z => z rfl) fun z => ni_ok hi hl z), ni_to (n := i) (by omega), blk_up h]
end ZBLK
