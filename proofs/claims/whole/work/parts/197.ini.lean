/-! constructors, step by step -/
section ZINI
variable {c : Nat → zh_E} {n A k m : Nat} {X : zh_T} {β : Type} {r : Option β}
theorem q_na {t len : Nat} {g : Nat → zh_T → Option β} (hm : n + 1 = m) (H : g (A + n) (blk (cu c n (.inl (t, len, .inl fun _ => 0))) m A X) = r) : zb2 (zna (blk c n A X) t len) g = r := by
  subst hm
  rw [b_na, zb2_some, H]
theorem q_nq {t len : Nat} {g : Nat → zh_T → Option β} (hm : n + 1 = m) (H : g (A + n) (blk (cu c n (.inl (t, len, .inr (.inr (.inr (.inr fun _ => none)))))) m A X) = r) : zb2 (znq (blk c n A X) t len) g = r := by
  subst hm
  rw [b_nq, zb2_some, H]
theorem q_nw {ci : Nat} {fs : List Value} {g : Nat → zh_T → Option β} (hm : n + 1 = m) (H : g (A + n) (blk (cu c n (.inr (ci, fs))) m A X) = r) : zb2 (znw (blk c n A X) ci fs) g = r := by
  subst hm
  rw [b_nw, zb2_some, H]
theorem q_p {ci j : Nat} {v : Value} {g : zh_T → Option β} (fs : List Value) (h : k < n) (hc : c k = .inr (ci, fs)) (hj : j < fs.length) (H : g (blk (cu c k (.inr (ci, fs.set j v))) n A X) = r) : zb1 (zp (blk c n A X) (A + k) ci j v) g = r := by
  rw [b_p h hc hj, zb1_some, H]
theorem q_p0 {ci j : Nat} {v : Value} {g : zh_T → Option β} (fs : List Value) (h : 0 < n) (hc : c 0 = .inr (ci, fs)) (hj : j < fs.length) (H : g (blk (cu c 0 (.inr (ci, fs.set j v))) n A X) = r) : zb1 (zp (blk c n A X) A ci j v) g = r := q_p (k := 0) fs h hc hj H
theorem q_pz {ci j : Nat} {v : Int32} {g : zh_T → Option β} (fs : List Value) (h : k < n) (hc : c k = .inr (ci, fs)) (hj : j < fs.length) (hv : v = 0 ∨ v = 1) (H : g (blk (cu c k (.inr (ci, fs.set j (.int v)))) n A X) = r) : zb1 (zpz (blk c n A X) (A + k) ci j v) g = r := by
  rw [b_pz h hc hj hv, zb1_some, H]
theorem q_gr {ci j d : Nat} {g : Nat → Option β} (fs : List Value) (h : k < n) (hc : c k = .inr (ci, fs)) (hj : fs[j]? = some (.ref d)) (H : g d = r) : zb1 (zgr (blk c n A X) (A + k) ci j) g = r := by
  rw [b_gr h hc hj, zb1_some, H]
theorem q_gr0 {ci j d : Nat} {g : Nat → Option β} (fs : List Value) (h : 0 < n) (hc : c 0 = .inr (ci, fs)) (hj : fs[j]? = some (.ref d)) (H : g d = r) : zb1 (zgr (blk c n A X) A ci j) g = r := q_gr (k := 0) fs h hc hj H
theorem q_gi {ci j : Nat} {x : Int32} {g : Int32 → Option β} (fs : List Value) (h : k < n) (hc : c k = .inr (ci, fs)) (hj : fs[j]? = some (.int x)) (H : g x = r) : zb1 (zgi (blk c n A X) (A + k) ci j) g = r := by
  rw [b_gi h hc hj, zb1_some, H]
theorem q_ck {ci : Nat} {g : Unit → Option β} (fs : List Value) (h : k < n) (hc : c k = .inr (ci, fs)) (H : g () = r) : zb1 (zck (blk c n A X) (A + k) ci) g = r := by
  rw [b_ck h hc, zb1_some, H]
theorem cu_at (c : Nat → zh_E) (k : Nat) (v : zh_E) : cu c k v k = v := if_pos rfl
theorem cu_ne {c : Nat → zh_E} {k i : Nat} (v : zh_E) (h : i ≠ k) : cu c k v i = c i := if_neg h
/-- new Records behind n cells -/
def rcC (c : Nat → zh_E) (n A : Nat) : Nat → zh_E := fun k => if k = n then .inr (5, [.ref (A + (n + 1))]) else if k = n + 1 then .inl (0, 32, .inl fun _ => 0) else c k
theorem q_rec {N : Nat} {g : Nat → zh_T → Option β} (hm : n + 2 = m) (H : g (A + n) (blk (rcC c n A) m A X) = r) : (zb2 (znw (blk c n A X) 5 [.null]) fun a1 X2 => zb2 (f_Records_init N X2 a1) fun _ X6 => g a1 X6) = r := by
  subst hm
  refine q_nw (m := n + 1) rfl ?_
  have e : f_Records_init N (blk (cu c n (.inr (5, [.null]))) (n + 1) A X) (A + n) = some ((), blk (rcC c n A) (n + 2) A X) := by
    unfold f_Records_init
    refine q_na (m := n + 2) rfl ?_
    refine q_p (k := n) [.null] (by omega) (by rw [cu_ne _ (by omega), cu_at]) (by simp) ?_
    have e2 : cu (cu (cu c n (.inr (5, [.null]))) (n + 1) (.inl (0, 32, .inl fun _ => 0))) n (.inr (5, [Value.null].set 0 (.ref (A + (n + 1))))) = rcC c n A := by
      funext q
      unfold rcC
      by_cases h1 : q = n
      · rw [h1, cu_at, if_pos rfl]
        rfl
      · rw [cu_ne _ h1, if_neg h1]
        by_cases h2 : q = n + 1
        · rw [h2, cu_at, if_pos rfl]
        · rw [cu_ne _ h2, cu_ne _ h1, if_neg h2]
    rw [e2]
  rw [e, zb2_some, H]
theorem rcC_lo {q : Nat} (h : q < n) : rcC c n A q = c q := by
  unfold rcC
  rw [if_neg (by omega), if_neg (by omega)]
def msF (A n : Nat) : List Value := [.ref (A + (n + 1)), .int 0, .int 0, .int 0, .int 0, .int 0, .int 0, .int 0, .int 0, .int 0]
/-- a new message behind n cells -/
def msC (c : Nat → zh_E) (n A : Nat) : Nat → zh_E := fun k => if k = n then .inr (3, msF A n) else if k = n + 1 then .inl (0, 4, .inl fun _ => 0) else c k
theorem q_msg {N : Nat} {g : Nat → zh_T → Option β} (hm : n + 2 = m) (H : g (A + n) (blk (msC c n A) m A X) = r) : (zb2 (znw (blk c n A X) 3 [.null, .int 0, .int 0, .int 0, .int 0, .int 0, .int 0, .int 0, .int 0, .int 0]) fun a1 X2 => zb2 (f_Message_init N X2 a1) fun _ X6 => g a1 X6) = r := by
  subst hm
  refine q_nw (m := n + 1) rfl ?_
  have e : f_Message_init N (blk (cu c n (.inr (3, [.null, .int 0, .int 0, .int 0, .int 0, .int 0, .int 0, .int 0, .int 0, .int 0]))) (n + 1) A X) (A + n) = some ((), blk (msC c n A) (n + 2) A X) := by
    unfold f_Message_init
    refine q_na (m := n + 2) rfl ?_
    refine q_p (k := n) [.null, .int 0, .int 0, .int 0, .int 0, .int 0, .int 0, .int 0, .int 0, .int 0] (by omega) (by rw [cu_ne _ (by omega), cu_at]) (by simp) ?_
    have e2 : cu (cu (cu c n (.inr (3, [.null, .int 0, .int 0, .int 0, .int 0, .int 0, .int 0, .int 0, .int 0, .int 0]))) (n + 1) (.inl (0, 4, .inl fun _ => 0))) n (.inr (3, [Value.null, .int 0, .int 0, .int 0, .int 0, .int 0, .int 0, .int 0, .int 0, .int 0].set 0 (.ref (A + (n + 1))))) = msC c n A := by
      funext q
      unfold msC
      by_cases h1 : q = n
      · rw [h1, cu_at, if_pos rfl]
        rfl
      · rw [cu_ne _ h1, if_neg h1]
        by_cases h2 : q = n + 1
        · rw [h2, cu_at, if_pos rfl]
        · rw [cu_ne _ h2, cu_ne _ h1, if_neg h2]
    rw [e2]
  rw [e, zb2_some, H]
/-- a new entry behind n cells -/
def enC (c : Nat → zh_E) (n A : Nat) : Nat → zh_E := cu (rcC (rcC (cu c n (.inr (1, [.null, .null, .int 0, .int 0]))) (n + 1) A) (n + 3) A) n (.inr (1, [.ref (A + (n + 1)), .ref (A + (n + 3)), .int 0, .int 0]))
theorem q_ent {N : Nat} {g : Nat → zh_T → Option β} (hm : n + 5 = m) (H : g (A + n) (blk (enC c n A) m A X) = r) : (zb2 (znw (blk c n A X) 1 [.null, .null, .int 0, .int 0]) fun a1 X2 => zb2 (f_Entry_init N X2 a1) fun _ X6 => g a1 X6) = r := by
  subst hm
  refine q_nw (m := n + 1) rfl ?_
  have e : f_Entry_init N (blk (cu c n (.inr (1, [.null, .null, .int 0, .int 0]))) (n + 1) A X) (A + n) = some ((), blk (enC c n A) (n + 5) A X) := by
    unfold f_Entry_init
    refine q_rec (m := n + 3) rfl ?_
    refine q_p (k := n) [.null, .null, .int 0, .int 0] (by omega) (by rw [rcC_lo (by omega), cu_at]) (by simp) ?_
    refine q_rec (m := n + 5) rfl ?_
    refine q_p (k := n) [.ref (A + (n + 1)), .null, .int 0, .int 0] (by omega) (by rw [rcC_lo (by omega), cu_at]; rfl) (by simp) ?_
    have e2 : cu (rcC (cu (rcC (cu c n (.inr (1, [.null, .null, .int 0, .int 0]))) (n + 1) A) n (.inr (1, [Value.null, .null, .int 0, .int 0].set 0 (.ref (A + (n + 1)))))) (n + 3) A) n (.inr (1, [Value.ref (A + (n + 1)), .null, .int 0, .int 0].set 1 (.ref (A + (n + 3))))) = enC c n A := by
      funext q
      unfold enC
      by_cases h1 : q = n
      · rw [h1, cu_at, cu_at]
        rfl
      · rw [cu_ne _ h1, cu_ne _ h1]
        unfold rcC
        rw [cu_ne _ h1]
    rw [e2]
  rw [e, zb2_some, H]
def scF (A n : Nat) (num r1 r2 r3 : Int32) : List Value := [.int num, .int r1, .int r2, .int r3, .ref (A + (n + 1)), .ref (A + (n + 3)), .int 1, .int 0, .int 0, .int 0, .int (0 + 1), .int 0, .int (0 + r3)]
/-- a new secondary behind n cells -/
def scC (c : Nat → zh_E) (n A : Nat) (num r1 r2 r3 : Int32) : Nat → zh_E := cu (rcC (rcC c (n + 1) A) (n + 3) A) n (.inr (6, scF A n num r1 r2 r3))
theorem q_sec {N : Nat} {g : Nat → zh_T → Option β} {num r1 r2 r3 : Int32} (hm : n + 5 = m) (H : g (A + n) (blk (scC c n A num r1 r2 r3) m A X) = r) : (zb2 (znw (blk c n A X) 6 [.int 0, .int 0, .int 0, .int 0, .null, .null, .int 0, .int 0, .int 0, .int 0, .int 0, .int 0, .int 0]) fun a1 X2 => zb2 (f_Secondary_init N X2 a1 num r1 r2 r3) fun _ X6 => g a1 X6) = r := by
  subst hm
  refine q_nw (m := n + 1) rfl ?_
  have e : f_Secondary_init N (blk (cu c n (.inr (6, [.int 0, .int 0, .int 0, .int 0, .null, .null, .int 0, .int 0, .int 0, .int 0, .int 0, .int 0, .int 0]))) (n + 1) A X) (A + n) num r1 r2 r3 = some ((), blk (scC c n A num r1 r2 r3) (n + 5) A X) := by
    unfold f_Secondary_init
    refine q_rec (m := n + 3) rfl ?_
    refine q_p (k := n) [.int 0, .int 0, .int 0, .int 0, .null, .null, .int 0, .int 0, .int 0, .int 0, .int 0, .int 0, .int 0] (by omega) (by rw [rcC_lo (by omega), cu_at]) (by simp) ?_
    refine q_rec (m := n + 5) rfl ?_
    refine q_p (k := n) [.int 0, .int 0, .int 0, .int 0, .ref (A + (n + 1)), .null, .int 0, .int 0, .int 0, .int 0, .int 0, .int 0, .int 0] (by omega) (by rw [rcC_lo (by omega), cu_at]; rfl) (by simp) ?_
    refine q_p (k := n) [.int 0, .int 0, .int 0, .int 0, .ref (A + (n + 1)), .ref (A + (n + 3)), .int 0, .int 0, .int 0, .int 0, .int 0, .int 0, .int 0] (by omega) (by rw [cu_at]; rfl) (by simp) ?_
    refine q_p (k := n) [.int num, .int 0, .int 0, .int 0, .ref (A + (n + 1)), .ref (A + (n + 3)), .int 0, .int 0, .int 0, .int 0, .int 0, .int 0, .int 0] (by omega) (by rw [cu_at]; rfl) (by simp) ?_
    refine q_p (k := n) [.int num, .int r1, .int 0, .int 0, .ref (A + (n + 1)), .ref (A + (n + 3)), .int 0, .int 0, .int 0, .int 0, .int 0, .int 0, .int 0] (by omega) (by rw [cu_at]; rfl) (by simp) ?_
    refine q_p (k := n) [.int num, .int r1, .int r2, .int 0, .ref (A + (n + 1)), .ref (A + (n + 3)), .int 0, .int 0, .int 0, .int 0, .int 0, .int 0, .int 0] (by omega) (by rw [cu_at]; rfl) (by simp) ?_
    refine q_ck (k := n) [.int num, .int r1, .int r2, .int r3, .ref (A + (n + 1)), .ref (A + (n + 3)), .int 0, .int 0, .int 0, .int 0, .int 0, .int 0, .int 0] (by omega) (by rw [cu_at]; rfl) ?_
    unfold f_Secondary_comeUp f_Secondary_rest
    rw [b_pz (k := n) (ci := 6) (j := 6) (v := 1) (fs := [.int num, .int r1, .int r2, .int r3, .ref (A + (n + 1)), .ref (A + (n + 3)), .int 0, .int 0, .int 0, .int 0, .int 0, .int 0, .int 0]) (by omega) (by rw [cu_at]; rfl) (by simp) (Or.inr rfl), zb1_some]
    rw [b_ck (k := n) (ci := 6) (fs := [.int num, .int r1, .int r2, .int r3, .ref (A + (n + 1)), .ref (A + (n + 3)), .int 1, .int 0, .int 0, .int 0, .int 0, .int 0, .int 0]) (by omega) (by rw [cu_at]; rfl), zb1_some]
    rw [b_p (k := n) (ci := 6) (j := 9) (fs := [.int num, .int r1, .int r2, .int r3, .ref (A + (n + 1)), .ref (A + (n + 3)), .int 1, .int 0, .int 0, .int 0, .int 0, .int 0, .int 0]) (by omega) (by rw [cu_at]; rfl) (by simp), zb1_some]
    rw [b_p (k := n) (ci := 6) (j := 10) (fs := [.int num, .int r1, .int r2, .int r3, .ref (A + (n + 1)), .ref (A + (n + 3)), .int 1, .int 0, .int 0, .int 0, .int 0, .int 0, .int 0]) (by omega) (by rw [cu_at]; rfl) (by simp), zb1_some, zb2_some]
    rw [b_gi (k := n) (ci := 6) (j := 3) (x := r3) (fs := [.int num, .int r1, .int r2, .int r3, .ref (A + (n + 1)), .ref (A + (n + 3)), .int 1, .int 0, .int 0, .int 0, .int (0 + 1), .int 0, .int 0]) (by omega) (by rw [cu_at]; rfl) rfl, zb1_some]
    rw [b_p (k := n) (ci := 6) (j := 12) (fs := [.int num, .int r1, .int r2, .int r3, .ref (A + (n + 1)), .ref (A + (n + 3)), .int 1, .int 0, .int 0, .int 0, .int (0 + 1), .int 0, .int 0]) (by omega) (by rw [cu_at]; rfl) (by simp), zb1_some, zb2_some]
    congr 3
    funext q
    unfold scC
    by_cases h1 : q = n
    · rw [h1, cu_at, cu_at]
      rfl
    · simp only [cu_ne _ h1]
      unfold rcC
      simp only [cu_ne _ h1]
  rw [e, zb2_some, H]
end ZINI
