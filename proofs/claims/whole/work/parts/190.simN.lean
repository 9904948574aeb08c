/-! deliver: the items of a FETCH's answer -/
def lstP (s : Nat → Bool) (f : Nat) : Nat → Nat → List (Nat × Nat)
  | _, 0 => []
  | o, n + 1 => if s o then (f, o) :: lstP s f (o + 1) n else lstP s f (o + 1) n
def cdP (x : Nat × Nat) : Int32 := cod x.1 x.2
theorem lstP_map (s : Nat → Bool) (f : Nat) : ∀ (n o : Nat), (lstP s f o n).map cdP = lst s f o n
  | 0, _ => rfl
  | n + 1, o => by
    unfold lstP lst
    cases s o with
    | false => exact lstP_map s f n (o + 1)
    | true =>
      show cdP (f, o) :: (lstP s f (o + 1) n).map cdP = cod f o :: lst s f (o + 1) n
      rw [lstP_map s f n (o + 1)]
      rfl
theorem lstP_ok (s : Nat → Bool) {f : Nat} (hf : f < 2) : ∀ (n o : Nat), o + n ≤ 256 → ∀ x ∈ lstP s f o n, x.1 < 2 ∧ x.2 < 256
  | 0, _, _, x, hx => by simp [lstP] at hx
  | n + 1, o, h, x, hx => by
    unfold lstP at hx
    cases hs : s o with
    | false =>
      rw [hs] at hx
      exact lstP_ok s hf n (o + 1) (by omega) x hx
    | true =>
      rw [hs, if_pos rfl] at hx
      rcases List.mem_cons.mp hx with e | e
      · rw [e]
        exact ⟨hf, by show o < 256; omega⟩
      · exact lstP_ok s hf n (o + 1) (by omega) x e
def appL : List (Nat × Nat) → (Nat → Bool) → (Nat → Bool)
  | [], s => s
  | x :: r, s => appL r (sItem s x.1 x.2)
theorem appL_app : ∀ (a b : List (Nat × Nat)) (s : Nat → Bool), appL (a ++ b) s = appL b (appL a s)
  | [], _, _ => rfl
  | x :: r, b, s => appL_app r b (sItem s x.1 x.2)
theorem appL_eq : ∀ (l : List (Nat × Nat)) {s t : Nat → Bool}, sEq s t → sEq (appL l s) (appL l t)
  | [], _, _, h => h
  | _ :: r, _, _, h => appL_eq r (sItem_eq h _ _)
theorem appL_goes (t : Nat → Bool) : ∀ (n o : Nat) (s : Nat → Bool) (q : Nat), appL (lstP t 1 o n) s q = (s q && !(t q && (decide (o ≤ q) && decide (q < o + n))))
  | 0, o, s, q => by
    show s q = _
    by_cases h : o ≤ q
    · rw [decide_eq_false (show ¬ q < o + 0 by omega)]
      simp
    · rw [decide_eq_false h]
      simp
  | n + 1, o, s, q => by
    unfold lstP
    cases ht : t o with
    | false =>
      rw [if_neg (by decide), appL_goes t n (o + 1) s q]
      by_cases hq : q = o
      · rw [hq, ht]
        simp
      · rw [show decide (o ≤ q) = decide (o + 1 ≤ q) from decide_eq_decide.mpr (by omega), show o + (n + 1) = o + 1 + n by omega]
    | true =>
      rw [if_pos rfl]
      show appL (lstP t 1 (o + 1) n) (sItem s 1 o) q = _
      rw [appL_goes t n (o + 1) _ q]
      have e1 : sItem s 1 o q = (s q && !decide (q = o)) := rfl
      rw [e1]
      by_cases hq : q = o
      · rw [hq, ht]
        simp
      · rw [show decide (o ≤ q) = decide (o + 1 ≤ q) from decide_eq_decide.mpr (by omega), show o + (n + 1) = o + 1 + n by omega, decide_eq_false hq]
        simp
theorem appL_comes (t : Nat → Bool) : ∀ (n o : Nat) (s : Nat → Bool) (q : Nat), appL (lstP t 0 o n) s q = (s q || (t q && (decide (o ≤ q) && decide (q < o + n))))
  | 0, o, s, q => by
    show s q = _
    by_cases h : o ≤ q
    · rw [decide_eq_false (show ¬ q < o + 0 by omega)]
      simp
    · rw [decide_eq_false h]
      simp
  | n + 1, o, s, q => by
    unfold lstP
    cases ht : t o with
    | false =>
      rw [if_neg (by decide), appL_comes t n (o + 1) s q]
      by_cases hq : q = o
      · rw [hq, ht]
        simp
      · rw [show decide (o ≤ q) = decide (o + 1 ≤ q) from decide_eq_decide.mpr (by omega), show o + (n + 1) = o + 1 + n by omega]
    | true =>
      rw [if_pos rfl]
      show appL (lstP t 0 (o + 1) n) (sItem s 0 o) q = _
      rw [appL_comes t n (o + 1) _ q]
      have e1 : sItem s 0 o q = (s q || decide (q = o)) := rfl
      rw [e1]
      by_cases hq : q = o
      · rw [hq, ht]
        simp
      · rw [show decide (o ≤ q) = decide (o + 1 ≤ q) from decide_eq_decide.mpr (by omega), show o + (n + 1) = o + 1 + n by omega, decide_eq_false hq]
        simp
theorem appI_shift (P : Nat → Nat × Nat) (d : Nat) : ∀ (m i : Nat) (s : Nat → Bool), appI (fun j => P (d + j)) i m s = appI P (d + i) m s
  | 0, _, _ => rfl
  | m + 1, i, s => appI_shift P d m (i + 1) _
theorem appI_add (P : Nat → Nat × Nat) : ∀ (a i b : Nat) (s : Nat → Bool), appI P i (a + b) s = appI P (i + a) b (appI P i a s)
  | 0, i, b, s => by
    rw [Nat.zero_add]
    rfl
  | a + 1, i, b, s => by
    rw [show a + 1 + b = (a + b) + 1 by omega]
    show appI P (i + 1) (a + b) (sItem s (P i).1 (P i).2) = appI P (i + (a + 1)) b (appI P (i + 1) a (sItem s (P i).1 (P i).2))
    rw [appI_add P a (i + 1) b, show i + 1 + a = i + (a + 1) by omega]
theorem appI_L (P : Nat → Nat × Nat) : ∀ (l : List (Nat × Nat)) (i : Nat) (s : Nat → Bool), (∀ (j : Nat) (x : Nat × Nat), l[j]? = some x → P (i + j) = x) → appI P i l.length s = appL l s
  | [], _, _, _ => rfl
  | x :: r, i, s, h => by
    have h0 : P i = x := h 0 x rfl
    show appI P (i + 1) r.length (sItem s (P i).1 (P i).2) = appL r (sItem s x.1 x.2)
    rw [h0]
    exact appI_L P r (i + 1) _ fun j y hy => by
      have := h (j + 1) y (by simpa using hy)
      rw [show i + 1 + j = i + (j + 1) by omega]
      exact this
theorem parts_of {s sr wh : Int32} {n : Nat} {src : Nat → Int32} {P : Nat → Nat × Nat} {tgt : Nat → Bool} (hP : ∀ j, j < n → (P j).1 < 2 ∧ (P j).2 < 256 ∧ src j = cod (P j).1 (P j).2) : ∀ (ps : List zMsg) (p : Nat) (b : Nat → Bool), psOk s sr wh n src ps p → ps ≠ [] → sEq (appI P (4 * p) (n - 4 * p) b) tgt → partsOk sr wh tgt ps p b
  | [], _, _, _, h, _ => absurd rfl h
  | m :: r, p, b, h, _, hb => by
    obtain ⟨⟨a1, -, a4, a5, a6, a7, a8, -, a9⟩, hlt, hr⟩ := h
    refine ⟨min 4 (n - 4 * p), fun j => P (4 * p + j), by omega, fun i hi => ?_, a1, a4, a5, a6, a7, ?_⟩
    · obtain ⟨z1, z2, z3⟩ := hP (4 * p + i) (by omega)
      exact ⟨z1, z2, (a9 i hi).trans z3⟩
    · rw [appI_shift P (4 * p), Nat.add_zero]
      cases r with
      | nil =>
        have hn : n ≤ 4 * (p + 1) := hr
        refine Or.inl ⟨rfl, ?_, ?_⟩
        · rw [a8, if_neg (by omega)]
        · rw [show min 4 (n - 4 * p) = n - 4 * p by omega]
          exact hb
      | cons m2 r2 =>
        have hn : 4 * (p + 1) < n := hr.2.1
        have e := appI_add P 4 (4 * p) (n - 4 * (p + 1)) b
        rw [show 4 + (n - 4 * (p + 1)) = n - 4 * p by omega, show 4 * p + 4 = 4 * (p + 1) by omega] at e
        refine Or.inr ⟨by simp, ?_, ?_⟩
        · rw [a8, if_pos (by omega)]
        · rw [show min 4 (n - 4 * p) = 4 by omega]
          refine parts_of hP (m2 :: r2) (p + 1) _ hr (by simp) ?_
          rw [← e]
          exact hb
theorem ps_all {s sr wh : Int32} {n : Nat} {src : Nat → Int32} : ∀ (ps : List zMsg) (p : Nat), psOk s sr wh n src ps p → ∀ m ∈ ps, m.1 1 = 5 ∧ m.1 2 = s
  | [], _, _, _, h => by simp at h
  | m :: r, p, h, x, hx => by
    rcases List.mem_cons.mp hx with e | e
    · rw [e]
      exact ⟨h.1.1, h.1.2.1⟩
    · exact ps_all r (p + 1) h.2.2 x e
theorem ps_rel {s sr wh : Int32} {n : Nat} {src : Nat → Int32} (hs : s = 1 ∨ s = 2) : ∀ (ps : List zMsg) (p : Nat), psOk s sr wh n src ps p → rel2 ps (rps s sr n p ps.length)
  | [], _, _ => trivial
  | m :: r, p, h => by
    obtain ⟨⟨a1, a2, a4, a5, a6, a7, a8, a9, -⟩, -, hr⟩ := h
    refine ⟨⟨a1, a2, a4, Or.inr (Or.inr (Or.inr (Or.inr rfl))), hs, fun z => ?_, fun _ => ⟨a5, a6, a9, a8⟩, fun z => absurd rfl z⟩, ps_rel hs r (p + 1) hr⟩
    exact absurd z (show ¬ (5 : Int32) = 4 by decide)
theorem cnt_df (s t : Nat → Bool) : ∀ (m o : Nat), cnt (dfS s t) o m = cnt (fun q => t q && !s q) o m + cnt (fun q => s q && !t q) o m
  | 0, _ => rfl
  | m + 1, o => by
    unfold cnt
    rw [cnt_df s t m (o + 1)]
    unfold dfS
    cases s o <;> cases t o <;> simp <;> omega
def dlstP (G K : Nat → Nat → Int32) (e : Nat → Nat) : Nat → Nat → List (Nat × Nat)
  | _, 0 => []
  | i, m + 1 => lstP (cs (G (e i))) 1 0 256 ++ (lstP (cs (K (e i))) 0 0 256 ++ dlstP G K e (i + 1) m)
theorem dlstP_map (G K : Nat → Nat → Int32) (e : Nat → Nat) : ∀ (m i : Nat), (dlstP G K e i m).map cdP = dlst G K e i m
  | 0, _ => rfl
  | m + 1, i => by
    unfold dlstP dlst
    rw [List.map_append, List.map_append, lstP_map, lstP_map, dlstP_map G K e m (i + 1)]
theorem dlstP_ok (G K : Nat → Nat → Int32) (e : Nat → Nat) : ∀ (m i : Nat), ∀ x ∈ dlstP G K e i m, x.1 < 2 ∧ x.2 < 256
  | 0, _, x, hx => by simp [dlstP] at hx
  | m + 1, i, x, hx => by
    unfold dlstP at hx
    rcases List.mem_append.mp hx with h | h
    · exact lstP_ok _ (by decide) 256 0 (by decide) x h
    · rcases List.mem_append.mp h with h | h
      · exact lstP_ok _ (by decide) 256 0 (by decide) x h
      · exact dlstP_ok G K e m (i + 1) x h
/-- the entries' items lead from version to version -/
theorem dlstP_app {V : Nat → Nat → Bool} {G K : Nat → Nat → Int32} {e : Nat → Nat} {b : Nat} : ∀ (m i : Nat) (s : Nat → Bool), (∀ j, i ≤ j → j < i + m → ∀ q, q < 256 → cs (G (e j)) q = (V (b + j) q && !V (b + j + 1) q) ∧ cs (K (e j)) q = (V (b + j + 1) q && !V (b + j) q)) → sEq s (V (b + i)) → sEq (appL (dlstP G K e i m) s) (V (b + (i + m)))
  | 0, i, s, _, h => h
  | m + 1, i, s, hE, h => by
    unfold dlstP
    rw [appL_app, appL_app]
    have e1 := dlstP_app (V := V) (G := G) (K := K) (e := e) (b := b) m (i + 1) (appL (lstP (cs (K (e i))) 0 0 256) (appL (lstP (cs (G (e i))) 1 0 256) s)) (fun j h1 h2 => hE j (by omega) (by omega)) ?_
    · rw [show i + 1 + m = i + (m + 1) by omega] at e1
      exact e1
    · intro q hq
      obtain ⟨z1, z2⟩ := hE i (by omega) (by omega) q hq
      rw [appL_comes, appL_goes, z1, z2, h q hq, decide_eq_true (Nat.zero_le q), decide_eq_true (show q < 0 + 256 by omega), show b + (i + 1) = b + i + 1 by omega]
      cases V (b + i) q <;> cases V (b + i + 1) q <;> rfl
theorem dlstP_len {V : Nat → Nat → Bool} {G K : Nat → Nat → Int32} {e : Nat → Nat} {b : Nat} : ∀ (m i : Nat), (∀ j, i ≤ j → j < i + m → (∀ q, q < 256 → cs (G (e j)) q = (V (b + j) q && !V (b + j + 1) q) ∧ cs (K (e j)) q = (V (b + j + 1) q && !V (b + j) q)) ∧ cnt (V (b + j)) 0 256 ≤ 24 ∧ cnt (fun q => V (b + j + 1) q && !V (b + j) q) 0 256 ≤ 4) →
    (dlstP G K e i m).length = sumD (fun j => cnt (dfS (V (b + j + 1)) (V (b + j))) 0 256) i m ∧ (dlstP G K e i m).length ≤ 28 * m
  | 0, i, _ => ⟨rfl, Nat.le_refl 0⟩
  | m + 1, i, hE => by
    obtain ⟨e1, e2⟩ := dlstP_len (V := V) (G := G) (K := K) (e := e) (b := b) m (i + 1) fun j h1 h2 => hE j (by omega) (by omega)
    obtain ⟨z1, z2, z3⟩ := hE i (by omega) (by omega)
    have l1 : (lstP (cs (G (e i))) 1 0 256).length = cnt (fun q => V (b + i) q && !V (b + i + 1) q) 0 256 := by
      rw [← List.length_map (f := cdP), lstP_map, lst_len]
      exact cnt_congr 256 0 fun q _ hq => (z1 q (by omega)).1
    have l2 : (lstP (cs (K (e i))) 0 0 256).length = cnt (fun q => V (b + i + 1) q && !V (b + i) q) 0 256 := by
      rw [← List.length_map (f := cdP), lstP_map, lst_len]
      exact cnt_congr 256 0 fun q _ hq => (z1 q (by omega)).2
    have l3 : cnt (fun q => V (b + i) q && !V (b + i + 1) q) 0 256 ≤ cnt (V (b + i)) 0 256 := cnt_mono 256 0 fun q _ _ hq => by
      rw [Bool.and_eq_true] at hq
      exact hq.1
    have l4 := cnt_df (V (b + i + 1)) (V (b + i)) 256 0
    unfold dlstP sumD
    rw [List.length_append, List.length_append, l1, l2, e1, l4]
    rw [e1] at e2
    generalize cnt (fun q => V (b + i) q && !V (b + i + 1) q) 0 256 = x1 at *
    generalize cnt (fun q => V (b + i + 1) q && !V (b + i) q) 0 256 = x2 at *
    generalize cnt (V (b + i)) 0 256 = x3 at *
    generalize sumD (fun j => cnt (dfS (V (b + j + 1)) (V (b + j))) 0 256) (i + 1) m = x4 at *
    omega
